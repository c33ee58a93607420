/-! calls without loops, both sides (wip/gen/run_spec2.py) -/
theorem back_bd {ρ : rm} (h : TI ρ) {a b : Int} (hab : (0 ≤ a ∧ a < 10) ∧ 0 ≤ b ∧ b < 10) : -8991 ≤ ((ρ 57 ((10 * a) + b)) - (oS ρ b)) + (oS ρ a) ∧ ((ρ 57 ((10 * a) + b)) - (oS ρ b)) + (oS ρ a) ≤ 108991 := by
  have h1 : 0 ≤ ρ 57 ((10 * a) + b) ∧ ρ 57 ((10 * a) + b) ≤ 100000 := h.2 57 ((10 * a) + b)
  have h2 := oS_rg h (h := a) (by omega)
  have h3 := oS_rg h (h := b) (by omega)
  omega
set_option maxRecDepth 10000 in
theorem s82 {Q : Option Value → mm → Prop} (ρ : rm) (τ : Int64)  (hT : TI ρ)  : G 82 0 (some (.ref 0) :: []) [] (toM ρ τ) Q = Q (some (vI (ρ 4 1))) (toM (rup ρ 4 1 0) τ) := by
  refine (g_aload_n d82_0 rfl rfl).trans ?_
  refine (g_getR (q := 4) d82_1 f9_35 sh_0 (by decide) rfl).trans ?_
  refine (g_cV d82_4 k9_80 rfl rfl rfl).trans ?_
  show G 70 0 (some (.ref 4) :: []) [] (toM ρ τ) _ = _
  refine (g_aload_n d70_0 rfl rfl).trans ?_
  refine (j_getI (v := ρ 4 1) d70_1 f6_15 sh_4 (by decide) rfl rfl).trans ?_
  have q1 : 0 ≤ ρ 4 1 ∧ ρ 4 1 ≤ 200 := hT.2 4 1
  refine (g_istore_n d70_4 (by decide) rfl rfl).trans ?_
  refine (g_aload_n d70_5 rfl rfl).trans ?_
  refine (j_iconst d70_6).trans ?_
  refine (j_putI d70_7 f6_15 sh_4 (by decide) rfl).trans ?_
  refine (g_iload_n d70_10 rfl).trans ?_
  refine (g_iret d70_11 rfl rfl).trans ?_
  show G 82 7 (some (.ref 0) :: []) [vI (ρ 4 1)] (toM (rup ρ 4 1 0) τ) _ = _
  exact g_iret d82_7 rfl rfl
set_option maxRecDepth 10000 in
theorem s85 {Q : Option Value → mm → Prop} (ρ : rm) (τ : Int64) (a1 : Int) (hT : TI ρ) (h_a1 : SB a1) : G 85 0 (some (.ref 0) :: some (vI a1) :: []) [] (toM ρ τ) Q = (if 0 ≤ a1 ∧ a1 < ρ 1 1 then Q (some (vI (ρ 10 a1))) (toM ρ τ) else Q (some (vI (-2))) (toM ρ τ)) := by
  refine (g_aload_n d85_0 rfl rfl).trans ?_
  refine (g_getR (q := 1) d85_1 f9_10 sh_0 (by decide) rfl).trans ?_
  refine (g_iload_n d85_4 rfl).trans ?_
  refine (g_cV d85_5 k9_114 rfl rfl rfl).trans ?_
  show G 32 0 [some (.ref 1), some (vI a1)] [] (toM ρ τ) _ = _
  refine (c_has hT.1 (by omega)).trans ?_
  show G 85 8 (some (.ref 0) :: some (vI a1) :: []) [vI (tv (0 ≤ a1 ∧ a1 < ρ 1 1))] (toM ρ τ) _ = _
  have q1 := (show 2 ≤ ρ 1 1 ∧ ρ 1 1 ≤ 10 from hT.2 1 1)
  refine j_ifT_eq (tgt := 23) d85_8 (by decide) (fun q2 => ?_) (fun q2 => ?_)
  ·
    refine (g_aload_n d85_11 rfl rfl).trans ?_
    refine (g_getR (q := 1) d85_12 f9_10 sh_0 (by decide) rfl).trans ?_
    refine (g_getR (q := 10) d85_15 f9_118 sh_1 (by decide) rfl).trans ?_
    refine (g_iload_n d85_18 rfl).trans ?_
    refine (j_ialoadB (v := ρ 10 a1) d85_19 sh_10 (by omega) (by decide) rfl).trans ?_
    have q3 : 0 ≤ ρ 10 a1 ∧ ρ 10 a1 ≤ 8991 := hT.2 10 a1
    refine (g_goto (tgt := 25) d85_20 (by decide)).trans ?_
    exact g_iret d85_25 rfl rfl
  ·
    refine (j_bipush d85_23 (by decide)).trans ?_
    exact g_iret d85_25 rfl rfl
set_option maxRecDepth 10000 in
theorem s86 {Q : Option Value → mm → Prop} (ρ : rm) (τ : Int64) (a1 : Int) (a2 : Int) (hT : TI ρ) (h_a1 : SB a1) (h_a2 : SB a2) : G 86 0 (some (.ref 0) :: some (vI a1) :: some (vI a2) :: []) [] (toM ρ τ) Q = (if 0 ≤ a1 ∧ a1 < ρ 1 1 then (if 0 ≤ a2 ∧ a2 < ρ 1 1 then Q (some (vI (ρ (17 + a1.toNat) a2))) (toM ρ τ) else Q (some (vI (-2))) (toM ρ τ)) else Q (some (vI (-2))) (toM ρ τ)) := by
  refine (g_aload_n d86_0 rfl rfl).trans ?_
  refine (g_getR (q := 1) d86_1 f9_10 sh_0 (by decide) rfl).trans ?_
  refine (g_iload_n d86_4 rfl).trans ?_
  refine (g_cV d86_5 k9_114 rfl rfl rfl).trans ?_
  show G 32 0 [some (.ref 1), some (vI a1)] [] (toM ρ τ) _ = _
  refine (c_has hT.1 (by omega)).trans ?_
  show G 86 8 (some (.ref 0) :: some (vI a1) :: some (vI a2) :: []) [vI (tv (0 ≤ a1 ∧ a1 < ρ 1 1))] (toM ρ τ) _ = _
  have q1 := (show 2 ≤ ρ 1 1 ∧ ρ 1 1 ≤ 10 from hT.2 1 1)
  refine j_ifT_eq (tgt := 34) d86_8 (by decide) (fun q2 => ?_) (fun q2 => ?_)
  ·
    refine (g_aload_n d86_11 rfl rfl).trans ?_
    refine (g_getR (q := 1) d86_12 f9_10 sh_0 (by decide) rfl).trans ?_
    refine (g_iload_n d86_15 rfl).trans ?_
    refine (g_cV d86_16 k9_114 rfl rfl rfl).trans ?_
    show G 32 0 [some (.ref 1), some (vI a2)] [] (toM ρ τ) _ = _
    refine (c_has hT.1 (by omega)).trans ?_
    show G 86 19 (some (.ref 0) :: some (vI a1) :: some (vI a2) :: []) [vI (tv (0 ≤ a2 ∧ a2 < ρ 1 1))] (toM ρ τ) _ = _
    have q3 := (show 2 ≤ ρ 1 1 ∧ ρ 1 1 ≤ 10 from hT.2 1 1)
    refine j_ifT_eq (tgt := 34) d86_19 (by decide) (fun q4 => ?_) (fun q4 => ?_)
    ·
      refine (g_aload_n d86_22 rfl rfl).trans ?_
      refine (g_getR (q := 1) d86_23 f9_10 sh_0 (by decide) rfl).trans ?_
      refine (g_iload_n d86_26 rfl).trans ?_
      refine (g_iload_n d86_27 rfl).trans ?_
      refine (g_cV d86_28 k9_122 rfl rfl rfl).trans ?_
      show G 33 0 [some (.ref 1), some (vI a1), some (vI a2)] [] (toM ρ τ) _ = _
      refine (c_dist hT.1 (by omega) (by omega)).trans ?_
      show G 86 31 (some (.ref 0) :: some (vI a1) :: some (vI a2) :: []) [vI (ρ (17 + a1.toNat) a2)] (toM ρ τ) _ = _
      have q5 := TI.row hT (k := 17 + a1.toNat) (by omega) a2
      refine (g_goto (tgt := 36) d86_31 (by decide)).trans ?_
      exact g_iret d86_36 rfl rfl
    ·
      refine (j_bipush d86_34 (by decide)).trans ?_
      exact g_iret d86_36 rfl rfl
  ·
    refine (j_bipush d86_34 (by decide)).trans ?_
    exact g_iret d86_36 rfl rfl
set_option maxRecDepth 10000 in
theorem s87 {Q : Option Value → mm → Prop} (ρ : rm) (τ : Int64) (a1 : Int) (a2 : Int) (a3 : Int) (hT : TI ρ) (h_a1 : SB a1) (h_a2 : SB a2) (h_a3 : SB a3) : G 87 0 (some (.ref 0) :: some (vI a1) :: some (vI a2) :: some (vI a3) :: []) [] (toM ρ τ) Q = (if 0 ≤ a1 ∧ a1 < ρ 1 1 then (if a2 < 0 then Q (some (vI (-3))) (toM ρ τ) else (if 99999 < a2 then Q (some (vI (-3))) (toM ρ τ) else (if a3 < 0 then Q (some (vI (-3))) (toM ρ τ) else (if a3 ≤ 1 then (if a3 = 0 then Q (some (vI ((a2 - ρ 10 a1) % 1440))) (toM ρ τ) else Q (some (vI (((a2 - ρ 10 a1) / 1440) + 100))) (toM ρ τ)) else Q (some (vI (-3))) (toM ρ τ))))) else Q (some (vI (-2))) (toM ρ τ)) := by
  refine (g_aload_n d87_0 rfl rfl).trans ?_
  refine (g_getR (q := 1) d87_1 f9_10 sh_0 (by decide) rfl).trans ?_
  refine (g_iload_n d87_4 rfl).trans ?_
  refine (g_cV d87_5 k9_114 rfl rfl rfl).trans ?_
  show G 32 0 [some (.ref 1), some (vI a1)] [] (toM ρ τ) _ = _
  refine (c_has hT.1 (by omega)).trans ?_
  show G 87 8 (some (.ref 0) :: some (vI a1) :: some (vI a2) :: some (vI a3) :: []) [vI (tv (0 ≤ a1 ∧ a1 < ρ 1 1))] (toM ρ τ) _ = _
  have q1 := (show 2 ≤ ρ 1 1 ∧ ρ 1 1 ≤ 10 from hT.2 1 1)
  refine j_ifT_ne (tgt := 14) d87_8 (by decide) (fun q2 => ?_) (fun q2 => ?_)
  ·
    refine (g_iload_n d87_14 rfl).trans ?_
    refine j_if_lt (tgt := 33) d87_15 (by decide) (by omega) (fun q3 => ?_) (fun q3 => ?_)
    ·
      refine (j_bipush d87_33 (by decide)).trans ?_
      exact g_iret d87_35 rfl rfl
    ·
      refine (g_iload_n d87_18 rfl).trans ?_
      refine (j_ldc (n := 99999) d87_19 cs9_126 (by decide)).trans ?_
      refine j_icmp_gt (tgt := 33) d87_21 (by decide) (by omega) (by omega) (fun q4 => ?_) (fun q4 => ?_)
      ·
        refine (j_bipush d87_33 (by decide)).trans ?_
        exact g_iret d87_35 rfl rfl
      ·
        refine (g_iload_n d87_24 rfl).trans ?_
        refine j_if_lt (tgt := 33) d87_25 (by decide) (by omega) (fun q5 => ?_) (fun q5 => ?_)
        ·
          refine (j_bipush d87_33 (by decide)).trans ?_
          exact g_iret d87_35 rfl rfl
        ·
          refine (g_iload_n d87_28 rfl).trans ?_
          refine (j_iconst d87_29).trans ?_
          refine j_icmp_le (tgt := 36) d87_30 (by decide) (by omega) (by omega) (fun q6 => ?_) (fun q6 => ?_)
          ·
            refine (g_iload_n d87_36 rfl).trans ?_
            refine j_if_ne (tgt := 52) d87_37 (by decide) (by omega) (fun q7 => ?_) (fun q7 => ?_)
            ·
              refine (g_aload_n d87_40 rfl rfl).trans ?_
              refine (g_getR (q := 1) d87_41 f9_10 sh_0 (by decide) rfl).trans ?_
              refine (g_iload_n d87_44 rfl).trans ?_
              refine (g_iload_n d87_45 rfl).trans ?_
              refine (g_cV d87_46 k9_127 rfl rfl rfl).trans ?_
              show G 34 0 [some (.ref 1), some (vI a1), some (vI a2)] [] (toM ρ τ) _ = _
              refine (c_clock hT.1 (by omega) (by omega)).trans ?_
              show G 87 49 (some (.ref 0) :: some (vI a1) :: some (vI a2) :: some (vI a3) :: []) [vI ((a2 - ρ 10 a1) % 1440)] (toM ρ τ) _ = _
              refine (g_goto (tgt := 64) d87_49 (by decide)).trans ?_
              exact g_iret d87_64 rfl rfl
            ·
              refine (g_aload_n d87_52 rfl rfl).trans ?_
              refine (g_getR (q := 1) d87_53 f9_10 sh_0 (by decide) rfl).trans ?_
              refine (g_iload_n d87_56 rfl).trans ?_
              refine (g_iload_n d87_57 rfl).trans ?_
              refine (g_cV d87_58 k9_130 rfl rfl rfl).trans ?_
              show G 35 0 [some (.ref 1), some (vI a1), some (vI a2)] [] (toM ρ τ) _ = _
              refine (c_date hT.1 (by omega) (by omega)).trans ?_
              show G 87 61 (some (.ref 0) :: some (vI a1) :: some (vI a2) :: some (vI a3) :: []) [vI ((a2 - ρ 10 a1) / 1440)] (toM ρ τ) _ = _
              have q8 := hT.1 10 a1 (by decide)
              refine (j_bipush d87_61 (by decide)).trans ?_
              refine (j_iadd d87_63).trans ?_
              exact g_iret d87_64 rfl rfl
          ·
            refine (j_bipush d87_33 (by decide)).trans ?_
            exact g_iret d87_35 rfl rfl
  ·
    refine (j_bipush d87_11 (by decide)).trans ?_
    exact g_iret d87_13 rfl rfl
set_option maxRecDepth 10000 in
theorem s88 {Q : Option Value → mm → Prop} (ρ : rm) (τ : Int64) (a1 : Int) (a2 : Int) (hT : TI ρ) (h_a1 : SB a1) (h_a2 : SB a2) : G 88 0 (some (.ref 0) :: some (vI a1) :: some (vI a2) :: []) [] (toM ρ τ) Q = (if 0 ≤ a1 ∧ a1 < ρ 1 1 then (if 0 ≤ a2 ∧ a2 < ρ 1 1 then Q (some (vI ((ρ (17 + a1.toNat) a2 - (ρ 10 a2 - ρ 10 a1)) + 100000))) (toM ρ τ) else Q (some (vI (-2))) (toM ρ τ)) else Q (some (vI (-2))) (toM ρ τ)) := by
  refine (g_aload_n d88_0 rfl rfl).trans ?_
  refine (g_getR (q := 1) d88_1 f9_10 sh_0 (by decide) rfl).trans ?_
  refine (g_iload_n d88_4 rfl).trans ?_
  refine (g_cV d88_5 k9_114 rfl rfl rfl).trans ?_
  show G 32 0 [some (.ref 1), some (vI a1)] [] (toM ρ τ) _ = _
  refine (c_has hT.1 (by omega)).trans ?_
  show G 88 8 (some (.ref 0) :: some (vI a1) :: some (vI a2) :: []) [vI (tv (0 ≤ a1 ∧ a1 < ρ 1 1))] (toM ρ τ) _ = _
  have q1 := (show 2 ≤ ρ 1 1 ∧ ρ 1 1 ≤ 10 from hT.2 1 1)
  refine j_ifT_eq (tgt := 37) d88_8 (by decide) (fun q2 => ?_) (fun q2 => ?_)
  ·
    refine (g_aload_n d88_11 rfl rfl).trans ?_
    refine (g_getR (q := 1) d88_12 f9_10 sh_0 (by decide) rfl).trans ?_
    refine (g_iload_n d88_15 rfl).trans ?_
    refine (g_cV d88_16 k9_114 rfl rfl rfl).trans ?_
    show G 32 0 [some (.ref 1), some (vI a2)] [] (toM ρ τ) _ = _
    refine (c_has hT.1 (by omega)).trans ?_
    show G 88 19 (some (.ref 0) :: some (vI a1) :: some (vI a2) :: []) [vI (tv (0 ≤ a2 ∧ a2 < ρ 1 1))] (toM ρ τ) _ = _
    have q3 := (show 2 ≤ ρ 1 1 ∧ ρ 1 1 ≤ 10 from hT.2 1 1)
    refine j_ifT_eq (tgt := 37) d88_19 (by decide) (fun q4 => ?_) (fun q4 => ?_)
    ·
      refine (g_aload_n d88_22 rfl rfl).trans ?_
      refine (g_getR (q := 1) d88_23 f9_10 sh_0 (by decide) rfl).trans ?_
      refine (g_iload_n d88_26 rfl).trans ?_
      refine (g_iload_n d88_27 rfl).trans ?_
      refine (g_cV d88_28 k9_133 rfl rfl rfl).trans ?_
      show G 37 0 [some (.ref 1), some (vI a1), some (vI a2)] [] (toM ρ τ) _ = _
      refine (c_span hT.1 (by omega) (by omega)).trans ?_
      show G 88 31 (some (.ref 0) :: some (vI a1) :: some (vI a2) :: []) [vI (ρ (17 + a1.toNat) a2 - (ρ 10 a2 - ρ 10 a1))] (toM ρ τ) _ = _
      have q5 := span_bd hT a1 a2 (by omega)
      refine (j_ldc (n := 100000) d88_31 cs9_136 (by decide)).trans ?_
      refine (j_iadd d88_33).trans ?_
      refine (g_goto (tgt := 39) d88_34 (by decide)).trans ?_
      exact g_iret d88_39 rfl rfl
    ·
      refine (j_bipush d88_37 (by decide)).trans ?_
      exact g_iret d88_39 rfl rfl
  ·
    refine (j_bipush d88_37 (by decide)).trans ?_
    exact g_iret d88_39 rfl rfl
set_option maxRecDepth 10000 in
theorem s90 {Q : Option Value → mm → Prop} (ρ : rm) (τ : Int64) (a1 : Int) (a2 : Int) (hT : TI ρ) (h_a1 : SB a1) (h_a2 : SB a2) : G 90 0 (some (.ref 0) :: some (vI a1) :: some (vI a2) :: []) [] (toM ρ τ) Q = (if 0 ≤ a1 ∧ a1 < ρ 2 4 then (if a2 = 0 then Q (some (vI (ρ 27 a1))) (toM ρ τ) else (if a2 = 1 then Q (some (vI (ρ 28 a1))) (toM ρ τ) else (if a2 = 2 then Q (some (vI (ρ 29 a1))) (toM ρ τ) else (if a2 = 3 then Q (some (vI (ρ 10 (ρ 27 a1) + (ρ 28 a1)))) (toM ρ τ) else Q (some (vI (-3))) (toM ρ τ))))) else Q (some (vI (-2))) (toM ρ τ)) := by
  refine (g_aload_n d90_0 rfl rfl).trans ?_
  refine (g_getR (q := 2) d90_1 f9_21 sh_0 (by decide) rfl).trans ?_
  refine (g_iload_n d90_4 rfl).trans ?_
  refine (g_cV d90_5 k9_143 rfl rfl rfl).trans ?_
  show G 11 0 [some (.ref 2), some (vI a1)] [] (toM ρ τ) _ = _
  refine (c_dhas hT (by omega)).trans ?_
  show G 90 8 (some (.ref 0) :: some (vI a1) :: some (vI a2) :: []) [vI (tv (0 ≤ a1 ∧ a1 < ρ 2 4))] (toM ρ τ) _ = _
  have q1 := (show 0 ≤ ρ 2 4 ∧ ρ 2 4 ≤ 10 from hT.2 2 4)
  refine j_ifT_ne (tgt := 14) d90_8 (by decide) (fun q2 => ?_) (fun q2 => ?_)
  ·
    refine (g_iload_n d90_14 rfl).trans ?_
    refine sw_case (c := 0) (fun q3 => ?_) (fun q3 => ?_)
    ·
      refine (g_tableIn (off := 29) (tgt := 44) d90_15 (by rw [iI_toInt (by omega)]; omega) (by rw [iI_toInt (by omega), q3]; rfl) (by decide)).trans ?_
      refine (g_aload_n d90_44 rfl rfl).trans ?_
      refine (g_getR (q := 2) d90_45 f9_21 sh_0 (by decide) rfl).trans ?_
      refine (g_getR (q := 27) d90_48 f9_144 sh_2 (by decide) rfl).trans ?_
      refine (g_iload_n d90_51 rfl).trans ?_
      refine (j_ialoadB (v := ρ 27 a1) d90_52 sh_27 (by omega) (by decide) rfl).trans ?_
      have q4 : 0 ≤ ρ 27 a1 ∧ ρ 27 a1 ≤ 9 := hT.2 27 a1
      exact g_iret d90_53 rfl rfl
    ·
      refine sw_case (c := 1) (fun q5 => ?_) (fun q5 => ?_)
      ·
        refine (g_tableIn (off := 39) (tgt := 54) d90_15 (by rw [iI_toInt (by omega)]; omega) (by rw [iI_toInt (by omega), q5]; rfl) (by decide)).trans ?_
        refine (g_aload_n d90_54 rfl rfl).trans ?_
        refine (g_getR (q := 2) d90_55 f9_21 sh_0 (by decide) rfl).trans ?_
        refine (g_getR (q := 28) d90_58 f9_147 sh_2 (by decide) rfl).trans ?_
        refine (g_iload_n d90_61 rfl).trans ?_
        refine (j_ialoadB (v := ρ 28 a1) d90_62 sh_28 (by omega) (by decide) rfl).trans ?_
        have q6 : 0 ≤ ρ 28 a1 ∧ ρ 28 a1 ≤ 1439 := hT.2 28 a1
        exact g_iret d90_63 rfl rfl
      ·
        refine sw_case (c := 2) (fun q7 => ?_) (fun q7 => ?_)
        ·
          refine (g_tableIn (off := 49) (tgt := 64) d90_15 (by rw [iI_toInt (by omega)]; omega) (by rw [iI_toInt (by omega), q7]; rfl) (by decide)).trans ?_
          refine (g_aload_n d90_64 rfl rfl).trans ?_
          refine (g_getR (q := 2) d90_65 f9_21 sh_0 (by decide) rfl).trans ?_
          refine (g_getR (q := 29) d90_68 f9_150 sh_2 (by decide) rfl).trans ?_
          refine (g_iload_n d90_71 rfl).trans ?_
          refine (j_ialoadB (v := ρ 29 a1) d90_72 sh_29 (by omega) (by decide) rfl).trans ?_
          have q8 : 0 ≤ ρ 29 a1 ∧ ρ 29 a1 ≤ 99 := hT.2 29 a1
          exact g_iret d90_73 rfl rfl
        ·
          refine sw_case (c := 3) (fun q9 => ?_) (fun q9 => ?_)
          ·
            refine (g_tableIn (off := 59) (tgt := 74) d90_15 (by rw [iI_toInt (by omega)]; omega) (by rw [iI_toInt (by omega), q9]; rfl) (by decide)).trans ?_
            refine (g_aload_n d90_74 rfl rfl).trans ?_
            refine (g_getR (q := 2) d90_75 f9_21 sh_0 (by decide) rfl).trans ?_
            refine (g_iload_n d90_78 rfl).trans ?_
            refine (g_cV d90_79 k9_153 rfl rfl rfl).trans ?_
            show G 12 0 (some (.ref 2) :: some (vI a1) :: []) [] (toM ρ τ) _ = _
            refine (g_aload_n d12_0 rfl rfl).trans ?_
            refine (g_getR (q := 1) d12_1 f1_27 sh_2 (by decide) rfl).trans ?_
            refine (g_aload_n d12_4 rfl rfl).trans ?_
            refine (g_getR (q := 27) d12_5 f1_9 sh_2 (by decide) rfl).trans ?_
            refine (g_iload_n d12_8 rfl).trans ?_
            refine (j_ialoadB (v := ρ 27 a1) d12_9 sh_27 (by omega) (by decide) rfl).trans ?_
            have q10 : 0 ≤ ρ 27 a1 ∧ ρ 27 a1 ≤ 9 := hT.2 27 a1
            refine (g_aload_n d12_10 rfl rfl).trans ?_
            refine (g_getR (q := 28) d12_11 f1_15 sh_2 (by decide) rfl).trans ?_
            refine (g_iload_n d12_14 rfl).trans ?_
            refine (j_ialoadB (v := ρ 28 a1) d12_15 sh_28 (by omega) (by decide) rfl).trans ?_
            have q11 : 0 ≤ ρ 28 a1 ∧ ρ 28 a1 ≤ 1439 := hT.2 28 a1
            refine (g_cV d12_16 k1_35 rfl rfl rfl).trans ?_
            show G 36 0 [some (.ref 1), some (vI (ρ 27 a1)), some (vI (ρ 28 a1))] [] (toM ρ τ) _ = _
            refine (c_true hT.1 (by omega) (by omega)).trans ?_
            show G 12 19 (some (.ref 2) :: some (vI a1) :: []) [vI (ρ 10 (ρ 27 a1) + (ρ 28 a1))] (toM ρ τ) _ = _
            have q12 := hT.1 10 (ρ 27 a1) (by decide)
            refine (g_iret d12_19 rfl rfl).trans ?_
            show G 90 82 (some (.ref 0) :: some (vI a1) :: some (vI a2) :: []) [vI (ρ 10 (ρ 27 a1) + (ρ 28 a1))] (toM ρ τ) _ = _
            exact g_iret d90_82 rfl rfl
          ·
            refine (g_tableOut (tgt := 83) d90_15 (by rw [iI_toInt (by omega)]; omega) (by decide)).trans ?_
            refine (j_bipush d90_83 (by decide)).trans ?_
            exact g_iret d90_85 rfl rfl
  ·
    refine (j_bipush d90_11 (by decide)).trans ?_
    exact g_iret d90_13 rfl rfl
set_option maxRecDepth 10000 in
theorem s91 {Q : Option Value → mm → Prop} (ρ : rm) (τ : Int64) (a1 : Int) (hT : TI ρ) (h_a1 : SB a1) : G 91 0 (some (.ref 0) :: some (vI a1) :: []) [] (toM ρ τ) Q = (if 0 ≤ a1 ∧ a1 < ρ 1 1 then (if a1 = (ρ 6 0) then Q (some (vI (-4))) (toM ρ τ) else (if ((ρ 6 1) + (ρ (17 + (ρ 6 0).toNat) a1)) ≤ 99999 then Q (some (vI ((ρ 6 1) + (ρ (17 + (ρ 6 0).toNat) a1)))) (toM (rup (rup ρ 6 1 ((ρ 6 1) + (ρ (17 + (ρ 6 0).toNat) a1))) 6 0 a1) τ) else Q (some (vI (-5))) (toM ρ τ))) else Q (some (vI (-2))) (toM ρ τ)) := by
  refine (g_aload_n d91_0 rfl rfl).trans ?_
  refine (g_getR (q := 1) d91_1 f9_10 sh_0 (by decide) rfl).trans ?_
  refine (g_iload_n d91_4 rfl).trans ?_
  refine (g_cV d91_5 k9_114 rfl rfl rfl).trans ?_
  show G 32 0 [some (.ref 1), some (vI a1)] [] (toM ρ τ) _ = _
  refine (c_has hT.1 (by omega)).trans ?_
  show G 91 8 (some (.ref 0) :: some (vI a1) :: []) [vI (tv (0 ≤ a1 ∧ a1 < ρ 1 1))] (toM ρ τ) _ = _
  have q1 := (show 2 ≤ ρ 1 1 ∧ ρ 1 1 ≤ 10 from hT.2 1 1)
  refine j_ifT_ne (tgt := 14) d91_8 (by decide) (fun q2 => ?_) (fun q2 => ?_)
  ·
    refine (g_iload_n d91_14 rfl).trans ?_
    refine (g_aload_n d91_15 rfl rfl).trans ?_
    refine (g_getR (q := 6) d91_16 f9_51 sh_0 (by decide) rfl).trans ?_
    refine (j_getI (v := ρ 6 0) d91_19 f9_157 sh_6 (by decide) rfl rfl).trans ?_
    have q3 : 0 ≤ ρ 6 0 ∧ ρ 6 0 ≤ 9 := hT.2 6 0
    refine j_icmp_ne (tgt := 28) d91_22 (by decide) (by omega) (by omega) (fun q4 => ?_) (fun q4 => ?_)
    ·
      refine (j_bipush d91_25 (by decide)).trans ?_
      exact g_iret d91_27 rfl rfl
    ·
      refine (g_aload_n d91_28 rfl rfl).trans ?_
      refine (g_getR (q := 6) d91_29 f9_51 sh_0 (by decide) rfl).trans ?_
      refine (g_aload_n d91_32 rfl rfl).trans ?_
      refine (g_getR (q := 1) d91_33 f9_10 sh_0 (by decide) rfl).trans ?_
      refine (g_aload_n d91_36 rfl rfl).trans ?_
      refine (g_getR (q := 6) d91_37 f9_51 sh_0 (by decide) rfl).trans ?_
      refine (j_getI (v := ρ 6 0) d91_40 f9_157 sh_6 (by decide) rfl rfl).trans ?_
      refine (g_iload_n d91_43 rfl).trans ?_
      refine (g_cV d91_44 k9_122 rfl rfl rfl).trans ?_
      show G 33 0 [some (.ref 1), some (vI (ρ 6 0)), some (vI a1)] [] (toM ρ τ) _ = _
      refine (c_dist hT.1 (by omega) (by omega)).trans ?_
      show G 91 47 (some (.ref 0) :: some (vI a1) :: []) [vI (ρ (17 + (ρ 6 0).toNat) a1), .ref 6] (toM ρ τ) _ = _
      have q5 := TI.row hT (k := 17 + (ρ 6 0).toNat) (by omega) a1
      refine (g_iload_n d91_47 rfl).trans ?_
      refine (g_cV d91_48 k9_159 rfl rfl rfl).trans ?_
      show G 77 0 (some (.ref 6) :: some (vI (ρ (17 + (ρ 6 0).toNat) a1)) :: some (vI a1) :: []) [] (toM ρ τ) _ = _
      refine (g_aload_n d77_0 rfl rfl).trans ?_
      refine (j_getI (v := ρ 6 1) d77_1 f8_25 sh_6 (by decide) rfl rfl).trans ?_
      have q6 : 0 ≤ ρ 6 1 ∧ ρ 6 1 ≤ 99999 := hT.2 6 1
      refine (g_iload_n d77_4 rfl).trans ?_
      refine (j_iadd d77_5).trans ?_
      refine (j_ldc (n := 99999) d77_6 cs8_28 (by decide)).trans ?_
      refine j_icmp_le (tgt := 14) d77_8 (by decide) (by omega) (by omega) (fun q7 => ?_) (fun q7 => ?_)
      ·
        refine (g_aload_n d77_14 rfl rfl).trans ?_
        refine (g_dupR d77_15).trans ?_
        refine (j_getI (v := ρ 6 1) d77_16 f8_25 sh_6 (by decide) rfl rfl).trans ?_
        refine (g_iload_n d77_19 rfl).trans ?_
        refine (j_iadd d77_20).trans ?_
        refine (j_putI d77_21 f8_25 sh_6 (by decide) rfl).trans ?_
        refine (g_aload_n d77_24 rfl rfl).trans ?_
        refine (g_iload_n d77_25 rfl).trans ?_
        refine (j_putI d77_26 f8_21 sh_6 (by decide) rfl).trans ?_
        refine (g_aload_n d77_29 rfl rfl).trans ?_
        refine (j_getI (v := (ρ 6 1) + (ρ (17 + (ρ 6 0).toNat) a1)) d77_30 f8_25 sh_6 (by decide) rfl (by simp [rup])).trans ?_
        refine (g_iret d77_33 rfl rfl).trans ?_
        show G 91 51 (some (.ref 0) :: some (vI a1) :: []) [vI ((ρ 6 1) + (ρ (17 + (ρ 6 0).toNat) a1))] (toM (rup (rup ρ 6 1 ((ρ 6 1) + (ρ (17 + (ρ 6 0).toNat) a1))) 6 0 a1) τ) _ = _
        exact g_iret d91_51 rfl rfl
      ·
        refine (j_bipush d77_11 (by decide)).trans ?_
        refine (g_iret d77_13 rfl rfl).trans ?_
        show G 91 51 (some (.ref 0) :: some (vI a1) :: []) [vI (-5)] (toM ρ τ) _ = _
        exact g_iret d91_51 rfl rfl
  ·
    refine (j_bipush d91_11 (by decide)).trans ?_
    exact g_iret d91_13 rfl rfl
set_option maxRecDepth 10000 in
theorem s92 {Q : Option Value → mm → Prop} (ρ : rm) (τ : Int64) (a1 : Int) (hT : TI ρ) (h_a1 : SB a1) : G 92 0 (some (.ref 0) :: some (vI a1) :: []) [] (toM ρ τ) Q = (if a1 < 1 then Q (some (vI (-3))) (toM ρ τ) else (if a1 ≤ 9999 then (if ((ρ 6 1) + a1) ≤ 99999 then Q (some (vI ((ρ 6 1) + a1))) (toM (rup (rup ρ 6 1 ((ρ 6 1) + a1)) 6 0 (ρ 6 0)) τ) else Q (some (vI (-5))) (toM ρ τ)) else Q (some (vI (-3))) (toM ρ τ))) := by
  refine (g_iload_n d92_0 rfl).trans ?_
  refine (j_iconst d92_1).trans ?_
  refine j_icmp_lt (tgt := 12) d92_2 (by decide) (by omega) (by omega) (fun q1 => ?_) (fun q1 => ?_)
  ·
    refine (j_bipush d92_12 (by decide)).trans ?_
    exact g_iret d92_14 rfl rfl
  ·
    refine (g_iload_n d92_5 rfl).trans ?_
    refine (j_sipush d92_6 (by decide)).trans ?_
    refine j_icmp_le (tgt := 15) d92_9 (by decide) (by omega) (by omega) (fun q2 => ?_) (fun q2 => ?_)
    ·
      refine (g_aload_n d92_15 rfl rfl).trans ?_
      refine (g_getR (q := 6) d92_16 f9_51 sh_0 (by decide) rfl).trans ?_
      refine (g_iload_n d92_19 rfl).trans ?_
      refine (g_aload_n d92_20 rfl rfl).trans ?_
      refine (g_getR (q := 6) d92_21 f9_51 sh_0 (by decide) rfl).trans ?_
      refine (j_getI (v := ρ 6 0) d92_24 f9_157 sh_6 (by decide) rfl rfl).trans ?_
      have q3 : 0 ≤ ρ 6 0 ∧ ρ 6 0 ≤ 9 := hT.2 6 0
      refine (g_cV d92_27 k9_159 rfl rfl rfl).trans ?_
      show G 77 0 (some (.ref 6) :: some (vI a1) :: some (vI (ρ 6 0)) :: []) [] (toM ρ τ) _ = _
      refine (g_aload_n d77_0 rfl rfl).trans ?_
      refine (j_getI (v := ρ 6 1) d77_1 f8_25 sh_6 (by decide) rfl rfl).trans ?_
      have q4 : 0 ≤ ρ 6 1 ∧ ρ 6 1 ≤ 99999 := hT.2 6 1
      refine (g_iload_n d77_4 rfl).trans ?_
      refine (j_iadd d77_5).trans ?_
      refine (j_ldc (n := 99999) d77_6 cs8_28 (by decide)).trans ?_
      refine j_icmp_le (tgt := 14) d77_8 (by decide) (by omega) (by omega) (fun q5 => ?_) (fun q5 => ?_)
      ·
        refine (g_aload_n d77_14 rfl rfl).trans ?_
        refine (g_dupR d77_15).trans ?_
        refine (j_getI (v := ρ 6 1) d77_16 f8_25 sh_6 (by decide) rfl rfl).trans ?_
        refine (g_iload_n d77_19 rfl).trans ?_
        refine (j_iadd d77_20).trans ?_
        refine (j_putI d77_21 f8_25 sh_6 (by decide) rfl).trans ?_
        refine (g_aload_n d77_24 rfl rfl).trans ?_
        refine (g_iload_n d77_25 rfl).trans ?_
        refine (j_putI d77_26 f8_21 sh_6 (by decide) rfl).trans ?_
        refine (g_aload_n d77_29 rfl rfl).trans ?_
        refine (j_getI (v := (ρ 6 1) + a1) d77_30 f8_25 sh_6 (by decide) rfl (by simp [rup])).trans ?_
        refine (g_iret d77_33 rfl rfl).trans ?_
        show G 92 30 (some (.ref 0) :: some (vI a1) :: []) [vI ((ρ 6 1) + a1)] (toM (rup (rup ρ 6 1 ((ρ 6 1) + a1)) 6 0 (ρ 6 0)) τ) _ = _
        exact g_iret d92_30 rfl rfl
      ·
        refine (j_bipush d77_11 (by decide)).trans ?_
        refine (g_iret d77_13 rfl rfl).trans ?_
        show G 92 30 (some (.ref 0) :: some (vI a1) :: []) [vI (-5)] (toM ρ τ) _ = _
        exact g_iret d92_30 rfl rfl
    ·
      refine (j_bipush d92_12 (by decide)).trans ?_
      exact g_iret d92_14 rfl rfl
set_option maxRecDepth 10000 in
theorem s93 {Q : Option Value → mm → Prop} (ρ : rm) (τ : Int64) (a1 : Int) (hT : TI ρ) (h_a1 : SB a1) : G 93 0 (some (.ref 0) :: some (vI a1) :: []) [] (toM ρ τ) Q = (if a1 = 0 then Q (some (vI (ρ 6 0))) (toM ρ τ) else (if a1 = 1 then Q (some (vI (ρ 6 1))) (toM ρ τ) else (if a1 = 2 then Q (some (vI (((ρ 6 1) - ρ 10 (ρ 6 0)) % 1440))) (toM ρ τ) else (if a1 = 3 then Q (some (vI ((((ρ 6 1) - ρ 10 (ρ 6 0)) / 1440) + 100))) (toM ρ τ) else Q (some (vI (-3))) (toM ρ τ))))) := by
  refine (g_iload_n d93_0 rfl).trans ?_
  refine sw_case (c := 0) (fun q1 => ?_) (fun q1 => ?_)
  ·
    refine (g_tableIn (off := 31) (tgt := 32) d93_1 (by rw [iI_toInt (by omega)]; omega) (by rw [iI_toInt (by omega), q1]; rfl) (by decide)).trans ?_
    refine (g_aload_n d93_32 rfl rfl).trans ?_
    refine (g_getR (q := 6) d93_33 f9_51 sh_0 (by decide) rfl).trans ?_
    refine (j_getI (v := ρ 6 0) d93_36 f9_157 sh_6 (by decide) rfl rfl).trans ?_
    have q2 : 0 ≤ ρ 6 0 ∧ ρ 6 0 ≤ 9 := hT.2 6 0
    exact g_iret d93_39 rfl rfl
  ·
    refine sw_case (c := 1) (fun q3 => ?_) (fun q3 => ?_)
    ·
      refine (g_tableIn (off := 39) (tgt := 40) d93_1 (by rw [iI_toInt (by omega)]; omega) (by rw [iI_toInt (by omega), q3]; rfl) (by decide)).trans ?_
      refine (g_aload_n d93_40 rfl rfl).trans ?_
      refine (g_getR (q := 6) d93_41 f9_51 sh_0 (by decide) rfl).trans ?_
      refine (j_getI (v := ρ 6 1) d93_44 f9_162 sh_6 (by decide) rfl rfl).trans ?_
      have q4 : 0 ≤ ρ 6 1 ∧ ρ 6 1 ≤ 99999 := hT.2 6 1
      exact g_iret d93_47 rfl rfl
    ·
      refine sw_case (c := 2) (fun q5 => ?_) (fun q5 => ?_)
      ·
        refine (g_tableIn (off := 47) (tgt := 48) d93_1 (by rw [iI_toInt (by omega)]; omega) (by rw [iI_toInt (by omega), q5]; rfl) (by decide)).trans ?_
        refine (g_aload_n d93_48 rfl rfl).trans ?_
        refine (g_getR (q := 1) d93_49 f9_10 sh_0 (by decide) rfl).trans ?_
        refine (g_aload_n d93_52 rfl rfl).trans ?_
        refine (g_getR (q := 6) d93_53 f9_51 sh_0 (by decide) rfl).trans ?_
        refine (j_getI (v := ρ 6 0) d93_56 f9_157 sh_6 (by decide) rfl rfl).trans ?_
        have q6 : 0 ≤ ρ 6 0 ∧ ρ 6 0 ≤ 9 := hT.2 6 0
        refine (g_aload_n d93_59 rfl rfl).trans ?_
        refine (g_getR (q := 6) d93_60 f9_51 sh_0 (by decide) rfl).trans ?_
        refine (j_getI (v := ρ 6 1) d93_63 f9_162 sh_6 (by decide) rfl rfl).trans ?_
        have q7 : 0 ≤ ρ 6 1 ∧ ρ 6 1 ≤ 99999 := hT.2 6 1
        refine (g_cV d93_66 k9_127 rfl rfl rfl).trans ?_
        show G 34 0 [some (.ref 1), some (vI (ρ 6 0)), some (vI (ρ 6 1))] [] (toM ρ τ) _ = _
        refine (c_clock hT.1 (by omega) (by omega)).trans ?_
        show G 93 69 (some (.ref 0) :: some (vI a1) :: []) [vI (((ρ 6 1) - ρ 10 (ρ 6 0)) % 1440)] (toM ρ τ) _ = _
        exact g_iret d93_69 rfl rfl
      ·
        refine sw_case (c := 3) (fun q8 => ?_) (fun q8 => ?_)
        ·
          refine (g_tableIn (off := 69) (tgt := 70) d93_1 (by rw [iI_toInt (by omega)]; omega) (by rw [iI_toInt (by omega), q8]; rfl) (by decide)).trans ?_
          refine (g_aload_n d93_70 rfl rfl).trans ?_
          refine (g_getR (q := 1) d93_71 f9_10 sh_0 (by decide) rfl).trans ?_
          refine (g_aload_n d93_74 rfl rfl).trans ?_
          refine (g_getR (q := 6) d93_75 f9_51 sh_0 (by decide) rfl).trans ?_
          refine (j_getI (v := ρ 6 0) d93_78 f9_157 sh_6 (by decide) rfl rfl).trans ?_
          have q9 : 0 ≤ ρ 6 0 ∧ ρ 6 0 ≤ 9 := hT.2 6 0
          refine (g_aload_n d93_81 rfl rfl).trans ?_
          refine (g_getR (q := 6) d93_82 f9_51 sh_0 (by decide) rfl).trans ?_
          refine (j_getI (v := ρ 6 1) d93_85 f9_162 sh_6 (by decide) rfl rfl).trans ?_
          have q10 : 0 ≤ ρ 6 1 ∧ ρ 6 1 ≤ 99999 := hT.2 6 1
          refine (g_cV d93_88 k9_130 rfl rfl rfl).trans ?_
          show G 35 0 [some (.ref 1), some (vI (ρ 6 0)), some (vI (ρ 6 1))] [] (toM ρ τ) _ = _
          refine (c_date hT.1 (by omega) (by omega)).trans ?_
          show G 93 91 (some (.ref 0) :: some (vI a1) :: []) [vI (((ρ 6 1) - ρ 10 (ρ 6 0)) / 1440)] (toM ρ τ) _ = _
          have q11 := hT.1 10 (ρ 6 0) (by decide)
          refine (j_bipush d93_91 (by decide)).trans ?_
          refine (j_iadd d93_93).trans ?_
          exact g_iret d93_94 rfl rfl
        ·
          refine (g_tableOut (tgt := 95) d93_1 (by rw [iI_toInt (by omega)]; omega) (by decide)).trans ?_
          refine (j_bipush d93_95 (by decide)).trans ?_
          exact g_iret d93_97 rfl rfl
set_option maxRecDepth 10000 in
theorem s94 {Q : Option Value → mm → Prop} (ρ : rm) (τ : Int64) (a1 : Int) (hT : TI ρ) (h_a1 : SB a1) : G 94 0 (some (.ref 0) :: some (vI a1) :: []) [] (toM ρ τ) Q = (if a1 < 0 then Q (some (vI (-2))) (toM ρ τ) else (if 2 ≤ a1 then Q (some (vI (-2))) (toM ρ τ) else Q (some (vI (ρ 6 1))) (toM (rup (rup ρ 40 a1 (ρ 6 0)) 41 a1 (ρ 6 1)) τ))) := by
  refine (g_iload_n d94_0 rfl).trans ?_
  refine j_if_lt (tgt := 20) d94_1 (by decide) (by omega) (fun q1 => ?_) (fun q1 => ?_)
  ·
    refine (j_bipush d94_20 (by decide)).trans ?_
    exact g_iret d94_22 rfl rfl
  ·
    refine (g_iload_n d94_4 rfl).trans ?_
    refine (j_iconst d94_5).trans ?_
    refine j_icmp_ge (tgt := 20) d94_6 (by decide) (by omega) (by omega) (fun q2 => ?_) (fun q2 => ?_)
    ·
      refine (j_bipush d94_20 (by decide)).trans ?_
      exact g_iret d94_22 rfl rfl
    ·
      refine (g_aload_n d94_9 rfl rfl).trans ?_
      refine (g_getR (q := 6) d94_10 f9_51 sh_0 (by decide) rfl).trans ?_
      refine (g_iload_n d94_13 rfl).trans ?_
      refine (g_cV d94_14 k9_165 rfl rfl rfl).trans ?_
      show G 78 0 (some (.ref 6) :: some (vI a1) :: []) [] (toM ρ τ) _ = _
      refine (g_aload_n d78_0 rfl rfl).trans ?_
      refine (g_getR (q := 40) d78_1 f8_9 sh_6 (by decide) rfl).trans ?_
      refine (g_iload_n d78_4 rfl).trans ?_
      refine (g_aload_n d78_5 rfl rfl).trans ?_
      refine (j_getI (v := ρ 6 0) d78_6 f8_21 sh_6 (by decide) rfl rfl).trans ?_
      have q3 : 0 ≤ ρ 6 0 ∧ ρ 6 0 ≤ 9 := hT.2 6 0
      refine (j_iastoreB d78_9 sh_40 (by omega) (by decide)).trans ?_
      refine (g_aload_n d78_10 rfl rfl).trans ?_
      refine (g_getR (q := 41) d78_11 f8_15 sh_6 (by decide) rfl).trans ?_
      refine (g_iload_n d78_14 rfl).trans ?_
      refine (g_aload_n d78_15 rfl rfl).trans ?_
      refine (j_getI (v := ρ 6 1) d78_16 f8_25 sh_6 (by decide) rfl (by simp [rup])).trans ?_
      have q4 : 0 ≤ ρ 6 1 ∧ ρ 6 1 ≤ 99999 := hT.2 6 1
      refine (j_iastoreB d78_19 sh_41 (by omega) (by decide)).trans ?_
      refine (g_aload_n d78_20 rfl rfl).trans ?_
      refine (j_getI (v := ρ 6 1) d78_21 f8_25 sh_6 (by decide) rfl (by simp [rup])).trans ?_
      refine (g_iret d78_24 rfl rfl).trans ?_
      show G 94 17 (some (.ref 0) :: some (vI a1) :: []) [vI (ρ 6 1)] (toM (rup (rup ρ 40 a1 (ρ 6 0)) 41 a1 (ρ 6 1)) τ) _ = _
      refine (g_goto (tgt := 22) d94_17 (by decide)).trans ?_
      exact g_iret d94_22 rfl rfl
set_option maxRecDepth 10000 in
theorem s95 {Q : Option Value → mm → Prop} (ρ : rm) (τ : Int64) (a1 : Int) (hT : TI ρ) (h_a1 : SB a1) : G 95 0 (some (.ref 0) :: some (vI a1) :: []) [] (toM ρ τ) Q = (if a1 < 0 then Q (some (vI (-2))) (toM ρ τ) else (if 2 ≤ a1 then Q (some (vI (-2))) (toM ρ τ) else (if (ρ 40 a1) = (-1) then Q (some (vI (-4))) (toM ρ τ) else Q (some (vI (ρ 41 a1))) (toM (rup (rup ρ 6 0 (ρ 40 a1)) 6 1 (ρ 41 a1)) τ)))) := by
  refine (g_iload_n d95_0 rfl).trans ?_
  refine j_if_lt (tgt := 20) d95_1 (by decide) (by omega) (fun q1 => ?_) (fun q1 => ?_)
  ·
    refine (j_bipush d95_20 (by decide)).trans ?_
    exact g_iret d95_22 rfl rfl
  ·
    refine (g_iload_n d95_4 rfl).trans ?_
    refine (j_iconst d95_5).trans ?_
    refine j_icmp_ge (tgt := 20) d95_6 (by decide) (by omega) (by omega) (fun q2 => ?_) (fun q2 => ?_)
    ·
      refine (j_bipush d95_20 (by decide)).trans ?_
      exact g_iret d95_22 rfl rfl
    ·
      refine (g_aload_n d95_9 rfl rfl).trans ?_
      refine (g_getR (q := 6) d95_10 f9_51 sh_0 (by decide) rfl).trans ?_
      refine (g_iload_n d95_13 rfl).trans ?_
      refine (g_cV d95_14 k9_168 rfl rfl rfl).trans ?_
      show G 79 0 (some (.ref 6) :: some (vI a1) :: []) [] (toM ρ τ) _ = _
      refine (g_aload_n d79_0 rfl rfl).trans ?_
      refine (g_getR (q := 40) d79_1 f8_9 sh_6 (by decide) rfl).trans ?_
      refine (g_iload_n d79_4 rfl).trans ?_
      refine (j_ialoadB (v := ρ 40 a1) d79_5 sh_40 (by omega) (by decide) rfl).trans ?_
      have q3 : (-1) ≤ ρ 40 a1 ∧ ρ 40 a1 ≤ 9 := hT.2 40 a1
      refine (j_iconst d79_6).trans ?_
      refine j_icmp_ne (tgt := 13) d79_7 (by decide) (by omega) (by omega) (fun q4 => ?_) (fun q4 => ?_)
      ·
        refine (j_bipush d79_10 (by decide)).trans ?_
        refine (g_iret d79_12 rfl rfl).trans ?_
        show G 95 17 (some (.ref 0) :: some (vI a1) :: []) [vI (-4)] (toM ρ τ) _ = _
        refine (g_goto (tgt := 22) d95_17 (by decide)).trans ?_
        exact g_iret d95_22 rfl rfl
      ·
        refine (g_aload_n d79_13 rfl rfl).trans ?_
        refine (g_aload_n d79_14 rfl rfl).trans ?_
        refine (g_getR (q := 40) d79_15 f8_9 sh_6 (by decide) rfl).trans ?_
        refine (g_iload_n d79_18 rfl).trans ?_
        refine (j_ialoadB (v := ρ 40 a1) d79_19 sh_40 (by omega) (by decide) rfl).trans ?_
        refine (j_putI d79_20 f8_21 sh_6 (by decide) rfl).trans ?_
        refine (g_aload_n d79_23 rfl rfl).trans ?_
        refine (g_aload_n d79_24 rfl rfl).trans ?_
        refine (g_getR (q := 41) d79_25 f8_15 sh_6 (by decide) rfl).trans ?_
        refine (g_iload_n d79_28 rfl).trans ?_
        refine (j_ialoadB (v := ρ 41 a1) d79_29 sh_41 (by omega) (by decide) (by simp [rup])).trans ?_
        have q5 : 0 ≤ ρ 41 a1 ∧ ρ 41 a1 ≤ 99999 := hT.2 41 a1
        refine (j_putI d79_30 f8_25 sh_6 (by decide) rfl).trans ?_
        refine (g_aload_n d79_33 rfl rfl).trans ?_
        refine (j_getI (v := ρ 41 a1) d79_34 f8_25 sh_6 (by decide) rfl (by simp [rup])).trans ?_
        refine (g_iret d79_37 rfl rfl).trans ?_
        show G 95 17 (some (.ref 0) :: some (vI a1) :: []) [vI (ρ 41 a1)] (toM (rup (rup ρ 6 0 (ρ 40 a1)) 6 1 (ρ 41 a1)) τ) _ = _
        refine (g_goto (tgt := 22) d95_17 (by decide)).trans ?_
        exact g_iret d95_22 rfl rfl
set_option maxRecDepth 10000 in
theorem s96 {Q : Option Value → mm → Prop} (ρ : rm) (τ : Int64) (a1 : Int) (hT : TI ρ) (h_a1 : SB a1) : G 96 0 (some (.ref 0) :: some (vI a1) :: []) [] (toM ρ τ) Q = (if 0 ≤ a1 then (if (ρ 2 4) ≤ a1 then Q (some (vI (-1))) (toM ρ τ) else Q (some (vI (ρ 30 a1))) (toM ρ τ)) else Q (some (vI (-3))) (toM ρ τ)) := by
  refine (g_iload_n d96_0 rfl).trans ?_
  refine j_if_ge (tgt := 7) d96_1 (by decide) (by omega) (fun q1 => ?_) (fun q1 => ?_)
  ·
    refine (g_iload_n d96_7 rfl).trans ?_
    refine (g_aload_n d96_8 rfl rfl).trans ?_
    refine (g_getR (q := 2) d96_9 f9_21 sh_0 (by decide) rfl).trans ?_
    refine (j_getI (v := ρ 2 4) d96_12 f9_91 sh_2 (by decide) rfl rfl).trans ?_
    have q2 : 0 ≤ ρ 2 4 ∧ ρ 2 4 ≤ 10 := hT.2 2 4
    refine j_icmp_ge (tgt := 30) d96_15 (by decide) (by omega) (by omega) (fun q3 => ?_) (fun q3 => ?_)
    ·
      refine (j_iconst d96_30).trans ?_
      exact g_iret d96_31 rfl rfl
    ·
      refine (g_aload_n d96_18 rfl rfl).trans ?_
      refine (g_getR (q := 2) d96_19 f9_21 sh_0 (by decide) rfl).trans ?_
      refine (g_getR (q := 30) d96_22 f9_171 sh_2 (by decide) rfl).trans ?_
      refine (g_iload_n d96_25 rfl).trans ?_
      refine (j_ialoadB (v := ρ 30 a1) d96_26 sh_30 (by omega) (by decide) rfl).trans ?_
      have q4 : 0 ≤ ρ 30 a1 ∧ ρ 30 a1 ≤ 9 := hT.2 30 a1
      refine (g_goto (tgt := 31) d96_27 (by decide)).trans ?_
      exact g_iret d96_31 rfl rfl
  ·
    refine (j_bipush d96_4 (by decide)).trans ?_
    exact g_iret d96_6 rfl rfl
set_option maxRecDepth 10000 in
theorem s97 {Q : Option Value → mm → Prop} (ρ : rm) (τ : Int64) (a1 : Int) (a2 : Int) (hT : TI ρ) (h_a1 : SB a1) (h_a2 : SB a2) : G 97 0 (some (.ref 0) :: some (vI a1) :: some (vI a2) :: []) [] (toM ρ τ) Q = (if 0 ≤ a1 ∧ a1 < ρ 2 4 then (if 0 ≤ a2 ∧ a2 < ρ 2 4 then (if (ρ 10 (ρ 27 a1) + (ρ 28 a1)) < (ρ 10 (ρ 27 a2) + (ρ 28 a2)) then (if ((ρ 10 (ρ 27 a2) + (ρ 28 a2)) - (((ρ 10 (ρ 27 a1) + (ρ 28 a1)) + (ρ 29 a1)) + (ρ (17 + (ρ 27 a1).toNat) (ρ 27 a2)))) < 0 then Q (some (vI (-1))) (toM ρ τ) else Q (some (vI (((ρ 10 (ρ 27 a2) + (ρ 28 a2)) - (((ρ 10 (ρ 27 a1) + (ρ 28 a1)) + (ρ 29 a1)) + (ρ (17 + (ρ 27 a1).toNat) (ρ 27 a2)))) + 100000))) (toM ρ τ)) else (if (ρ 10 (ρ 27 a1) + (ρ 28 a1)) = (ρ 10 (ρ 27 a2) + (ρ 28 a2)) then (if a2 ≤ a1 then Q (some (vI (-1))) (toM ρ τ) else (if ((ρ 10 (ρ 27 a2) + (ρ 28 a2)) - (((ρ 10 (ρ 27 a1) + (ρ 28 a1)) + (ρ 29 a1)) + (ρ (17 + (ρ 27 a1).toNat) (ρ 27 a2)))) < 0 then Q (some (vI (-1))) (toM ρ τ) else Q (some (vI (((ρ 10 (ρ 27 a2) + (ρ 28 a2)) - (((ρ 10 (ρ 27 a1) + (ρ 28 a1)) + (ρ 29 a1)) + (ρ (17 + (ρ 27 a1).toNat) (ρ 27 a2)))) + 100000))) (toM ρ τ))) else Q (some (vI (-1))) (toM ρ τ))) else Q (some (vI (-2))) (toM ρ τ)) else Q (some (vI (-2))) (toM ρ τ)) := by
  refine (g_aload_n d97_0 rfl rfl).trans ?_
  refine (g_getR (q := 2) d97_1 f9_21 sh_0 (by decide) rfl).trans ?_
  refine (g_iload_n d97_4 rfl).trans ?_
  refine (g_cV d97_5 k9_143 rfl rfl rfl).trans ?_
  show G 11 0 [some (.ref 2), some (vI a1)] [] (toM ρ τ) _ = _
  refine (c_dhas hT (by omega)).trans ?_
  show G 97 8 (some (.ref 0) :: some (vI a1) :: some (vI a2) :: []) [vI (tv (0 ≤ a1 ∧ a1 < ρ 2 4))] (toM ρ τ) _ = _
  have q1 := (show 0 ≤ ρ 2 4 ∧ ρ 2 4 ≤ 10 from hT.2 2 4)
  refine j_ifT_eq (tgt := 22) d97_8 (by decide) (fun q2 => ?_) (fun q2 => ?_)
  ·
    refine (g_aload_n d97_11 rfl rfl).trans ?_
    refine (g_getR (q := 2) d97_12 f9_21 sh_0 (by decide) rfl).trans ?_
    refine (g_iload_n d97_15 rfl).trans ?_
    refine (g_cV d97_16 k9_143 rfl rfl rfl).trans ?_
    show G 11 0 [some (.ref 2), some (vI a2)] [] (toM ρ τ) _ = _
    refine (c_dhas hT (by omega)).trans ?_
    show G 97 19 (some (.ref 0) :: some (vI a1) :: some (vI a2) :: []) [vI (tv (0 ≤ a2 ∧ a2 < ρ 2 4))] (toM ρ τ) _ = _
    have q3 := (show 0 ≤ ρ 2 4 ∧ ρ 2 4 ≤ 10 from hT.2 2 4)
    refine j_ifT_ne (tgt := 25) d97_19 (by decide) (fun q4 => ?_) (fun q4 => ?_)
    ·
      refine (g_aload_n d97_25 rfl rfl).trans ?_
      refine (g_getR (q := 2) d97_26 f9_21 sh_0 (by decide) rfl).trans ?_
      refine (g_iload_n d97_29 rfl).trans ?_
      refine (g_iload_n d97_30 rfl).trans ?_
      refine (g_cV d97_31 k9_174 rfl rfl rfl).trans ?_
      show G 16 0 (some (.ref 2) :: some (vI a1) :: some (vI a2) :: []) [] (toM ρ τ) _ = _
      refine (g_aload_n d16_0 rfl rfl).trans ?_
      refine (g_iload_n d16_1 rfl).trans ?_
      refine (g_iload_n d16_2 rfl).trans ?_
      refine (g_cV d16_3 k1_48 rfl rfl rfl).trans ?_
      show G 14 0 (some (.ref 2) :: some (vI a1) :: some (vI a2) :: []) [] (toM ρ τ) _ = _
      refine (g_aload_n d14_0 rfl rfl).trans ?_
      refine (g_iload_n d14_1 rfl).trans ?_
      refine (g_cV d14_2 k1_41 rfl rfl rfl).trans ?_
      show G 12 0 (some (.ref 2) :: some (vI a1) :: []) [] (toM ρ τ) _ = _
      refine (g_aload_n d12_0 rfl rfl).trans ?_
      refine (g_getR (q := 1) d12_1 f1_27 sh_2 (by decide) rfl).trans ?_
      refine (g_aload_n d12_4 rfl rfl).trans ?_
      refine (g_getR (q := 27) d12_5 f1_9 sh_2 (by decide) rfl).trans ?_
      refine (g_iload_n d12_8 rfl).trans ?_
      refine (j_ialoadB (v := ρ 27 a1) d12_9 sh_27 (by omega) (by decide) rfl).trans ?_
      have q5 : 0 ≤ ρ 27 a1 ∧ ρ 27 a1 ≤ 9 := hT.2 27 a1
      refine (g_aload_n d12_10 rfl rfl).trans ?_
      refine (g_getR (q := 28) d12_11 f1_15 sh_2 (by decide) rfl).trans ?_
      refine (g_iload_n d12_14 rfl).trans ?_
      refine (j_ialoadB (v := ρ 28 a1) d12_15 sh_28 (by omega) (by decide) rfl).trans ?_
      have q6 : 0 ≤ ρ 28 a1 ∧ ρ 28 a1 ≤ 1439 := hT.2 28 a1
      refine (g_cV d12_16 k1_35 rfl rfl rfl).trans ?_
      show G 36 0 [some (.ref 1), some (vI (ρ 27 a1)), some (vI (ρ 28 a1))] [] (toM ρ τ) _ = _
      refine (c_true hT.1 (by omega) (by omega)).trans ?_
      show G 12 19 (some (.ref 2) :: some (vI a1) :: []) [vI (ρ 10 (ρ 27 a1) + (ρ 28 a1))] (toM ρ τ) _ = _
      have q7 := hT.1 10 (ρ 27 a1) (by decide)
      refine (g_iret d12_19 rfl rfl).trans ?_
      show G 14 5 (some (.ref 2) :: some (vI a1) :: some (vI a2) :: []) [vI (ρ 10 (ρ 27 a1) + (ρ 28 a1))] (toM ρ τ) _ = _
      refine (g_aload_n d14_5 rfl rfl).trans ?_
      refine (g_iload_n d14_6 rfl).trans ?_
      refine (g_cV d14_7 k1_41 rfl rfl rfl).trans ?_
      show G 12 0 (some (.ref 2) :: some (vI a2) :: []) [] (toM ρ τ) _ = _
      refine (g_aload_n d12_0 rfl rfl).trans ?_
      refine (g_getR (q := 1) d12_1 f1_27 sh_2 (by decide) rfl).trans ?_
      refine (g_aload_n d12_4 rfl rfl).trans ?_
      refine (g_getR (q := 27) d12_5 f1_9 sh_2 (by decide) rfl).trans ?_
      refine (g_iload_n d12_8 rfl).trans ?_
      refine (j_ialoadB (v := ρ 27 a2) d12_9 sh_27 (by omega) (by decide) rfl).trans ?_
      have q8 : 0 ≤ ρ 27 a2 ∧ ρ 27 a2 ≤ 9 := hT.2 27 a2
      refine (g_aload_n d12_10 rfl rfl).trans ?_
      refine (g_getR (q := 28) d12_11 f1_15 sh_2 (by decide) rfl).trans ?_
      refine (g_iload_n d12_14 rfl).trans ?_
      refine (j_ialoadB (v := ρ 28 a2) d12_15 sh_28 (by omega) (by decide) rfl).trans ?_
      have q9 : 0 ≤ ρ 28 a2 ∧ ρ 28 a2 ≤ 1439 := hT.2 28 a2
      refine (g_cV d12_16 k1_35 rfl rfl rfl).trans ?_
      show G 36 0 [some (.ref 1), some (vI (ρ 27 a2)), some (vI (ρ 28 a2))] [] (toM ρ τ) _ = _
      refine (c_true hT.1 (by omega) (by omega)).trans ?_
      show G 12 19 (some (.ref 2) :: some (vI a2) :: []) [vI (ρ 10 (ρ 27 a2) + (ρ 28 a2))] (toM ρ τ) _ = _
      have q10 := hT.1 10 (ρ 27 a2) (by decide)
      refine (g_iret d12_19 rfl rfl).trans ?_
      show G 14 10 (some (.ref 2) :: some (vI a1) :: some (vI a2) :: []) [vI (ρ 10 (ρ 27 a2) + (ρ 28 a2)), vI (ρ 10 (ρ 27 a1) + (ρ 28 a1))] (toM ρ τ) _ = _
      refine j_icmp_lt (tgt := 31) d14_10 (by decide) (by omega) (by omega) (fun q11 => ?_) (fun q11 => ?_)
      ·
        refine (j_iconst d14_31).trans ?_
        refine (g_goto (tgt := 36) d14_32 (by decide)).trans ?_
        refine (g_iret d14_36 rfl rfl).trans ?_
        show G 16 6 (some (.ref 2) :: some (vI a1) :: some (vI a2) :: []) [vI 1] (toM ρ τ) _ = _
        refine ((g_if_eq (tgt := 22) d16_6 (by decide)).trans (if_neg (by decide))).trans ?_
        refine (g_aload_n d16_9 rfl rfl).trans ?_
        refine (g_iload_n d16_10 rfl).trans ?_
        refine (g_iload_n d16_11 rfl).trans ?_
        refine (g_cV d16_12 k1_52 rfl rfl rfl).trans ?_
        show G 15 0 (some (.ref 2) :: some (vI a1) :: some (vI a2) :: []) [] (toM ρ τ) _ = _
        refine (g_aload_n d15_0 rfl rfl).trans ?_
        refine (g_iload_n d15_1 rfl).trans ?_
        refine (g_cV d15_2 k1_41 rfl rfl rfl).trans ?_
        show G 12 0 (some (.ref 2) :: some (vI a2) :: []) [] (toM ρ τ) _ = _
        refine (g_aload_n d12_0 rfl rfl).trans ?_
        refine (g_getR (q := 1) d12_1 f1_27 sh_2 (by decide) rfl).trans ?_
        refine (g_aload_n d12_4 rfl rfl).trans ?_
        refine (g_getR (q := 27) d12_5 f1_9 sh_2 (by decide) rfl).trans ?_
        refine (g_iload_n d12_8 rfl).trans ?_
        refine (j_ialoadB (v := ρ 27 a2) d12_9 sh_27 (by omega) (by decide) rfl).trans ?_
        refine (g_aload_n d12_10 rfl rfl).trans ?_
        refine (g_getR (q := 28) d12_11 f1_15 sh_2 (by decide) rfl).trans ?_
        refine (g_iload_n d12_14 rfl).trans ?_
        refine (j_ialoadB (v := ρ 28 a2) d12_15 sh_28 (by omega) (by decide) rfl).trans ?_
        refine (g_cV d12_16 k1_35 rfl rfl rfl).trans ?_
        show G 36 0 [some (.ref 1), some (vI (ρ 27 a2)), some (vI (ρ 28 a2))] [] (toM ρ τ) _ = _
        refine (c_true hT.1 (by omega) (by omega)).trans ?_
        show G 12 19 (some (.ref 2) :: some (vI a2) :: []) [vI (ρ 10 (ρ 27 a2) + (ρ 28 a2))] (toM ρ τ) _ = _
        have q12 := hT.1 10 (ρ 27 a2) (by decide)
        refine (g_iret d12_19 rfl rfl).trans ?_
        show G 15 5 (some (.ref 2) :: some (vI a1) :: some (vI a2) :: []) [vI (ρ 10 (ρ 27 a2) + (ρ 28 a2))] (toM ρ τ) _ = _
        refine (g_aload_n d15_5 rfl rfl).trans ?_
        refine (g_iload_n d15_6 rfl).trans ?_
        refine (g_cV d15_7 k1_41 rfl rfl rfl).trans ?_
        show G 12 0 (some (.ref 2) :: some (vI a1) :: []) [] (toM ρ τ) _ = _
        refine (g_aload_n d12_0 rfl rfl).trans ?_
        refine (g_getR (q := 1) d12_1 f1_27 sh_2 (by decide) rfl).trans ?_
        refine (g_aload_n d12_4 rfl rfl).trans ?_
        refine (g_getR (q := 27) d12_5 f1_9 sh_2 (by decide) rfl).trans ?_
        refine (g_iload_n d12_8 rfl).trans ?_
        refine (j_ialoadB (v := ρ 27 a1) d12_9 sh_27 (by omega) (by decide) rfl).trans ?_
        refine (g_aload_n d12_10 rfl rfl).trans ?_
        refine (g_getR (q := 28) d12_11 f1_15 sh_2 (by decide) rfl).trans ?_
        refine (g_iload_n d12_14 rfl).trans ?_
        refine (j_ialoadB (v := ρ 28 a1) d12_15 sh_28 (by omega) (by decide) rfl).trans ?_
        refine (g_cV d12_16 k1_35 rfl rfl rfl).trans ?_
        show G 36 0 [some (.ref 1), some (vI (ρ 27 a1)), some (vI (ρ 28 a1))] [] (toM ρ τ) _ = _
        refine (c_true hT.1 (by omega) (by omega)).trans ?_
        show G 12 19 (some (.ref 2) :: some (vI a1) :: []) [vI (ρ 10 (ρ 27 a1) + (ρ 28 a1))] (toM ρ τ) _ = _
        have q13 := hT.1 10 (ρ 27 a1) (by decide)
        refine (g_iret d12_19 rfl rfl).trans ?_
        show G 15 10 (some (.ref 2) :: some (vI a1) :: some (vI a2) :: []) [vI (ρ 10 (ρ 27 a1) + (ρ 28 a1)), vI (ρ 10 (ρ 27 a2) + (ρ 28 a2))] (toM ρ τ) _ = _
        refine (g_aload_n d15_10 rfl rfl).trans ?_
        refine (g_getR (q := 29) d15_11 f1_18 sh_2 (by decide) rfl).trans ?_
        refine (g_iload_n d15_14 rfl).trans ?_
        refine (j_ialoadB (v := ρ 29 a1) d15_15 sh_29 (by omega) (by decide) rfl).trans ?_
        have q14 : 0 ≤ ρ 29 a1 ∧ ρ 29 a1 ≤ 99 := hT.2 29 a1
        refine (j_iadd d15_16).trans ?_
        refine (g_aload_n d15_17 rfl rfl).trans ?_
        refine (g_getR (q := 1) d15_18 f1_27 sh_2 (by decide) rfl).trans ?_
        refine (g_aload_n d15_21 rfl rfl).trans ?_
        refine (g_getR (q := 27) d15_22 f1_9 sh_2 (by decide) rfl).trans ?_
        refine (g_iload_n d15_25 rfl).trans ?_
        refine (j_ialoadB (v := ρ 27 a1) d15_26 sh_27 (by omega) (by decide) rfl).trans ?_
        refine (g_aload_n d15_27 rfl rfl).trans ?_
        refine (g_getR (q := 27) d15_28 f1_9 sh_2 (by decide) rfl).trans ?_
        refine (g_iload_n d15_31 rfl).trans ?_
        refine (j_ialoadB (v := ρ 27 a2) d15_32 sh_27 (by omega) (by decide) rfl).trans ?_
        refine (g_cV d15_33 k1_45 rfl rfl rfl).trans ?_
        show G 33 0 [some (.ref 1), some (vI (ρ 27 a1)), some (vI (ρ 27 a2))] [] (toM ρ τ) _ = _
        refine (c_dist hT.1 (by omega) (by omega)).trans ?_
        show G 15 36 (some (.ref 2) :: some (vI a1) :: some (vI a2) :: []) [vI (ρ (17 + (ρ 27 a1).toNat) (ρ 27 a2)), vI ((ρ 10 (ρ 27 a1) + (ρ 28 a1)) + (ρ 29 a1)), vI (ρ 10 (ρ 27 a2) + (ρ 28 a2))] (toM ρ τ) _ = _
        have q15 := TI.row hT (k := 17 + (ρ 27 a1).toNat) (by omega) (ρ 27 a2)
        refine (j_iadd d15_36).trans ?_
        refine (j_isub d15_37).trans ?_
        refine (g_iret d15_38 rfl rfl).trans ?_
        show G 16 15 (some (.ref 2) :: some (vI a1) :: some (vI a2) :: []) [vI ((ρ 10 (ρ 27 a2) + (ρ 28 a2)) - (((ρ 10 (ρ 27 a1) + (ρ 28 a1)) + (ρ 29 a1)) + (ρ (17 + (ρ 27 a1).toNat) (ρ 27 a2))))] (toM ρ τ) _ = _
        refine j_if_lt (tgt := 22) d16_15 (by decide) (by omega) (fun q16 => ?_) (fun q16 => ?_)
        ·
          refine (j_iconst d16_22).trans ?_
          refine (g_iret d16_23 rfl rfl).trans ?_
          show G 97 34 (some (.ref 0) :: some (vI a1) :: some (vI a2) :: []) [vI 0] (toM ρ τ) _ = _
          refine ((g_if_eq (tgt := 52) d97_34 (by decide)).trans (if_pos (by decide))).trans ?_
          refine (j_iconst d97_52).trans ?_
          exact g_iret d97_53 rfl rfl
        ·
          refine (j_iconst d16_18).trans ?_
          refine (g_goto (tgt := 23) d16_19 (by decide)).trans ?_
          refine (g_iret d16_23 rfl rfl).trans ?_
          show G 97 34 (some (.ref 0) :: some (vI a1) :: some (vI a2) :: []) [vI 1] (toM ρ τ) _ = _
          refine ((g_if_eq (tgt := 52) d97_34 (by decide)).trans (if_neg (by decide))).trans ?_
          refine (g_aload_n d97_37 rfl rfl).trans ?_
          refine (g_getR (q := 2) d97_38 f9_21 sh_0 (by decide) rfl).trans ?_
          refine (g_iload_n d97_41 rfl).trans ?_
          refine (g_iload_n d97_42 rfl).trans ?_
          refine (g_cV d97_43 k9_178 rfl rfl rfl).trans ?_
          show G 15 0 (some (.ref 2) :: some (vI a1) :: some (vI a2) :: []) [] (toM ρ τ) _ = _
          refine (g_aload_n d15_0 rfl rfl).trans ?_
          refine (g_iload_n d15_1 rfl).trans ?_
          refine (g_cV d15_2 k1_41 rfl rfl rfl).trans ?_
          show G 12 0 (some (.ref 2) :: some (vI a2) :: []) [] (toM ρ τ) _ = _
          refine (g_aload_n d12_0 rfl rfl).trans ?_
          refine (g_getR (q := 1) d12_1 f1_27 sh_2 (by decide) rfl).trans ?_
          refine (g_aload_n d12_4 rfl rfl).trans ?_
          refine (g_getR (q := 27) d12_5 f1_9 sh_2 (by decide) rfl).trans ?_
          refine (g_iload_n d12_8 rfl).trans ?_
          refine (j_ialoadB (v := ρ 27 a2) d12_9 sh_27 (by omega) (by decide) rfl).trans ?_
          refine (g_aload_n d12_10 rfl rfl).trans ?_
          refine (g_getR (q := 28) d12_11 f1_15 sh_2 (by decide) rfl).trans ?_
          refine (g_iload_n d12_14 rfl).trans ?_
          refine (j_ialoadB (v := ρ 28 a2) d12_15 sh_28 (by omega) (by decide) rfl).trans ?_
          refine (g_cV d12_16 k1_35 rfl rfl rfl).trans ?_
          show G 36 0 [some (.ref 1), some (vI (ρ 27 a2)), some (vI (ρ 28 a2))] [] (toM ρ τ) _ = _
          refine (c_true hT.1 (by omega) (by omega)).trans ?_
          show G 12 19 (some (.ref 2) :: some (vI a2) :: []) [vI (ρ 10 (ρ 27 a2) + (ρ 28 a2))] (toM ρ τ) _ = _
          have q17 := hT.1 10 (ρ 27 a2) (by decide)
          refine (g_iret d12_19 rfl rfl).trans ?_
          show G 15 5 (some (.ref 2) :: some (vI a1) :: some (vI a2) :: []) [vI (ρ 10 (ρ 27 a2) + (ρ 28 a2))] (toM ρ τ) _ = _
          refine (g_aload_n d15_5 rfl rfl).trans ?_
          refine (g_iload_n d15_6 rfl).trans ?_
          refine (g_cV d15_7 k1_41 rfl rfl rfl).trans ?_
          show G 12 0 (some (.ref 2) :: some (vI a1) :: []) [] (toM ρ τ) _ = _
          refine (g_aload_n d12_0 rfl rfl).trans ?_
          refine (g_getR (q := 1) d12_1 f1_27 sh_2 (by decide) rfl).trans ?_
          refine (g_aload_n d12_4 rfl rfl).trans ?_
          refine (g_getR (q := 27) d12_5 f1_9 sh_2 (by decide) rfl).trans ?_
          refine (g_iload_n d12_8 rfl).trans ?_
          refine (j_ialoadB (v := ρ 27 a1) d12_9 sh_27 (by omega) (by decide) rfl).trans ?_
          refine (g_aload_n d12_10 rfl rfl).trans ?_
          refine (g_getR (q := 28) d12_11 f1_15 sh_2 (by decide) rfl).trans ?_
          refine (g_iload_n d12_14 rfl).trans ?_
          refine (j_ialoadB (v := ρ 28 a1) d12_15 sh_28 (by omega) (by decide) rfl).trans ?_
          refine (g_cV d12_16 k1_35 rfl rfl rfl).trans ?_
          show G 36 0 [some (.ref 1), some (vI (ρ 27 a1)), some (vI (ρ 28 a1))] [] (toM ρ τ) _ = _
          refine (c_true hT.1 (by omega) (by omega)).trans ?_
          show G 12 19 (some (.ref 2) :: some (vI a1) :: []) [vI (ρ 10 (ρ 27 a1) + (ρ 28 a1))] (toM ρ τ) _ = _
          have q18 := hT.1 10 (ρ 27 a1) (by decide)
          refine (g_iret d12_19 rfl rfl).trans ?_
          show G 15 10 (some (.ref 2) :: some (vI a1) :: some (vI a2) :: []) [vI (ρ 10 (ρ 27 a1) + (ρ 28 a1)), vI (ρ 10 (ρ 27 a2) + (ρ 28 a2))] (toM ρ τ) _ = _
          refine (g_aload_n d15_10 rfl rfl).trans ?_
          refine (g_getR (q := 29) d15_11 f1_18 sh_2 (by decide) rfl).trans ?_
          refine (g_iload_n d15_14 rfl).trans ?_
          refine (j_ialoadB (v := ρ 29 a1) d15_15 sh_29 (by omega) (by decide) rfl).trans ?_
          refine (j_iadd d15_16).trans ?_
          refine (g_aload_n d15_17 rfl rfl).trans ?_
          refine (g_getR (q := 1) d15_18 f1_27 sh_2 (by decide) rfl).trans ?_
          refine (g_aload_n d15_21 rfl rfl).trans ?_
          refine (g_getR (q := 27) d15_22 f1_9 sh_2 (by decide) rfl).trans ?_
          refine (g_iload_n d15_25 rfl).trans ?_
          refine (j_ialoadB (v := ρ 27 a1) d15_26 sh_27 (by omega) (by decide) rfl).trans ?_
          refine (g_aload_n d15_27 rfl rfl).trans ?_
          refine (g_getR (q := 27) d15_28 f1_9 sh_2 (by decide) rfl).trans ?_
          refine (g_iload_n d15_31 rfl).trans ?_
          refine (j_ialoadB (v := ρ 27 a2) d15_32 sh_27 (by omega) (by decide) rfl).trans ?_
          refine (g_cV d15_33 k1_45 rfl rfl rfl).trans ?_
          show G 33 0 [some (.ref 1), some (vI (ρ 27 a1)), some (vI (ρ 27 a2))] [] (toM ρ τ) _ = _
          refine (c_dist hT.1 (by omega) (by omega)).trans ?_
          show G 15 36 (some (.ref 2) :: some (vI a1) :: some (vI a2) :: []) [vI (ρ (17 + (ρ 27 a1).toNat) (ρ 27 a2)), vI ((ρ 10 (ρ 27 a1) + (ρ 28 a1)) + (ρ 29 a1)), vI (ρ 10 (ρ 27 a2) + (ρ 28 a2))] (toM ρ τ) _ = _
          have q19 := TI.row hT (k := 17 + (ρ 27 a1).toNat) (by omega) (ρ 27 a2)
          refine (j_iadd d15_36).trans ?_
          refine (j_isub d15_37).trans ?_
          refine (g_iret d15_38 rfl rfl).trans ?_
          show G 97 46 (some (.ref 0) :: some (vI a1) :: some (vI a2) :: []) [vI ((ρ 10 (ρ 27 a2) + (ρ 28 a2)) - (((ρ 10 (ρ 27 a1) + (ρ 28 a1)) + (ρ 29 a1)) + (ρ (17 + (ρ 27 a1).toNat) (ρ 27 a2))))] (toM ρ τ) _ = _
          refine (j_ldc (n := 100000) d97_46 cs9_136 (by decide)).trans ?_
          refine (j_iadd d97_48).trans ?_
          refine (g_goto (tgt := 53) d97_49 (by decide)).trans ?_
          exact g_iret d97_53 rfl rfl
      ·
        refine (g_aload_n d14_13 rfl rfl).trans ?_
        refine (g_iload_n d14_14 rfl).trans ?_
        refine (g_cV d14_15 k1_41 rfl rfl rfl).trans ?_
        show G 12 0 (some (.ref 2) :: some (vI a1) :: []) [] (toM ρ τ) _ = _
        refine (g_aload_n d12_0 rfl rfl).trans ?_
        refine (g_getR (q := 1) d12_1 f1_27 sh_2 (by decide) rfl).trans ?_
        refine (g_aload_n d12_4 rfl rfl).trans ?_
        refine (g_getR (q := 27) d12_5 f1_9 sh_2 (by decide) rfl).trans ?_
        refine (g_iload_n d12_8 rfl).trans ?_
        refine (j_ialoadB (v := ρ 27 a1) d12_9 sh_27 (by omega) (by decide) rfl).trans ?_
        refine (g_aload_n d12_10 rfl rfl).trans ?_
        refine (g_getR (q := 28) d12_11 f1_15 sh_2 (by decide) rfl).trans ?_
        refine (g_iload_n d12_14 rfl).trans ?_
        refine (j_ialoadB (v := ρ 28 a1) d12_15 sh_28 (by omega) (by decide) rfl).trans ?_
        refine (g_cV d12_16 k1_35 rfl rfl rfl).trans ?_
        show G 36 0 [some (.ref 1), some (vI (ρ 27 a1)), some (vI (ρ 28 a1))] [] (toM ρ τ) _ = _
        refine (c_true hT.1 (by omega) (by omega)).trans ?_
        show G 12 19 (some (.ref 2) :: some (vI a1) :: []) [vI (ρ 10 (ρ 27 a1) + (ρ 28 a1))] (toM ρ τ) _ = _
        have q20 := hT.1 10 (ρ 27 a1) (by decide)
        refine (g_iret d12_19 rfl rfl).trans ?_
        show G 14 18 (some (.ref 2) :: some (vI a1) :: some (vI a2) :: []) [vI (ρ 10 (ρ 27 a1) + (ρ 28 a1))] (toM ρ τ) _ = _
        refine (g_aload_n d14_18 rfl rfl).trans ?_
        refine (g_iload_n d14_19 rfl).trans ?_
        refine (g_cV d14_20 k1_41 rfl rfl rfl).trans ?_
        show G 12 0 (some (.ref 2) :: some (vI a2) :: []) [] (toM ρ τ) _ = _
        refine (g_aload_n d12_0 rfl rfl).trans ?_
        refine (g_getR (q := 1) d12_1 f1_27 sh_2 (by decide) rfl).trans ?_
        refine (g_aload_n d12_4 rfl rfl).trans ?_
        refine (g_getR (q := 27) d12_5 f1_9 sh_2 (by decide) rfl).trans ?_
        refine (g_iload_n d12_8 rfl).trans ?_
        refine (j_ialoadB (v := ρ 27 a2) d12_9 sh_27 (by omega) (by decide) rfl).trans ?_
        refine (g_aload_n d12_10 rfl rfl).trans ?_
        refine (g_getR (q := 28) d12_11 f1_15 sh_2 (by decide) rfl).trans ?_
        refine (g_iload_n d12_14 rfl).trans ?_
        refine (j_ialoadB (v := ρ 28 a2) d12_15 sh_28 (by omega) (by decide) rfl).trans ?_
        refine (g_cV d12_16 k1_35 rfl rfl rfl).trans ?_
        show G 36 0 [some (.ref 1), some (vI (ρ 27 a2)), some (vI (ρ 28 a2))] [] (toM ρ τ) _ = _
        refine (c_true hT.1 (by omega) (by omega)).trans ?_
        show G 12 19 (some (.ref 2) :: some (vI a2) :: []) [vI (ρ 10 (ρ 27 a2) + (ρ 28 a2))] (toM ρ τ) _ = _
        have q21 := hT.1 10 (ρ 27 a2) (by decide)
        refine (g_iret d12_19 rfl rfl).trans ?_
        show G 14 23 (some (.ref 2) :: some (vI a1) :: some (vI a2) :: []) [vI (ρ 10 (ρ 27 a2) + (ρ 28 a2)), vI (ρ 10 (ρ 27 a1) + (ρ 28 a1))] (toM ρ τ) _ = _
        refine j_icmp_ne (tgt := 35) d14_23 (by decide) (by omega) (by omega) (fun q22 => ?_) (fun q22 => ?_)
        ·
          refine (g_iload_n d14_26 rfl).trans ?_
          refine (g_iload_n d14_27 rfl).trans ?_
          refine j_icmp_ge (tgt := 35) d14_28 (by decide) (by omega) (by omega) (fun q23 => ?_) (fun q23 => ?_)
          ·
            refine (j_iconst d14_35).trans ?_
            refine (g_iret d14_36 rfl rfl).trans ?_
            show G 16 6 (some (.ref 2) :: some (vI a1) :: some (vI a2) :: []) [vI 0] (toM ρ τ) _ = _
            refine ((g_if_eq (tgt := 22) d16_6 (by decide)).trans (if_pos (by decide))).trans ?_
            refine (j_iconst d16_22).trans ?_
            refine (g_iret d16_23 rfl rfl).trans ?_
            show G 97 34 (some (.ref 0) :: some (vI a1) :: some (vI a2) :: []) [vI 0] (toM ρ τ) _ = _
            refine ((g_if_eq (tgt := 52) d97_34 (by decide)).trans (if_pos (by decide))).trans ?_
            refine (j_iconst d97_52).trans ?_
            exact g_iret d97_53 rfl rfl
          ·
            refine (j_iconst d14_31).trans ?_
            refine (g_goto (tgt := 36) d14_32 (by decide)).trans ?_
            refine (g_iret d14_36 rfl rfl).trans ?_
            show G 16 6 (some (.ref 2) :: some (vI a1) :: some (vI a2) :: []) [vI 1] (toM ρ τ) _ = _
            refine ((g_if_eq (tgt := 22) d16_6 (by decide)).trans (if_neg (by decide))).trans ?_
            refine (g_aload_n d16_9 rfl rfl).trans ?_
            refine (g_iload_n d16_10 rfl).trans ?_
            refine (g_iload_n d16_11 rfl).trans ?_
            refine (g_cV d16_12 k1_52 rfl rfl rfl).trans ?_
            show G 15 0 (some (.ref 2) :: some (vI a1) :: some (vI a2) :: []) [] (toM ρ τ) _ = _
            refine (g_aload_n d15_0 rfl rfl).trans ?_
            refine (g_iload_n d15_1 rfl).trans ?_
            refine (g_cV d15_2 k1_41 rfl rfl rfl).trans ?_
            show G 12 0 (some (.ref 2) :: some (vI a2) :: []) [] (toM ρ τ) _ = _
            refine (g_aload_n d12_0 rfl rfl).trans ?_
            refine (g_getR (q := 1) d12_1 f1_27 sh_2 (by decide) rfl).trans ?_
            refine (g_aload_n d12_4 rfl rfl).trans ?_
            refine (g_getR (q := 27) d12_5 f1_9 sh_2 (by decide) rfl).trans ?_
            refine (g_iload_n d12_8 rfl).trans ?_
            refine (j_ialoadB (v := ρ 27 a2) d12_9 sh_27 (by omega) (by decide) rfl).trans ?_
            refine (g_aload_n d12_10 rfl rfl).trans ?_
            refine (g_getR (q := 28) d12_11 f1_15 sh_2 (by decide) rfl).trans ?_
            refine (g_iload_n d12_14 rfl).trans ?_
            refine (j_ialoadB (v := ρ 28 a2) d12_15 sh_28 (by omega) (by decide) rfl).trans ?_
            refine (g_cV d12_16 k1_35 rfl rfl rfl).trans ?_
            show G 36 0 [some (.ref 1), some (vI (ρ 27 a2)), some (vI (ρ 28 a2))] [] (toM ρ τ) _ = _
            refine (c_true hT.1 (by omega) (by omega)).trans ?_
            show G 12 19 (some (.ref 2) :: some (vI a2) :: []) [vI (ρ 10 (ρ 27 a2) + (ρ 28 a2))] (toM ρ τ) _ = _
            have q24 := hT.1 10 (ρ 27 a2) (by decide)
            refine (g_iret d12_19 rfl rfl).trans ?_
            show G 15 5 (some (.ref 2) :: some (vI a1) :: some (vI a2) :: []) [vI (ρ 10 (ρ 27 a2) + (ρ 28 a2))] (toM ρ τ) _ = _
            refine (g_aload_n d15_5 rfl rfl).trans ?_
            refine (g_iload_n d15_6 rfl).trans ?_
            refine (g_cV d15_7 k1_41 rfl rfl rfl).trans ?_
            show G 12 0 (some (.ref 2) :: some (vI a1) :: []) [] (toM ρ τ) _ = _
            refine (g_aload_n d12_0 rfl rfl).trans ?_
            refine (g_getR (q := 1) d12_1 f1_27 sh_2 (by decide) rfl).trans ?_
            refine (g_aload_n d12_4 rfl rfl).trans ?_
            refine (g_getR (q := 27) d12_5 f1_9 sh_2 (by decide) rfl).trans ?_
            refine (g_iload_n d12_8 rfl).trans ?_
            refine (j_ialoadB (v := ρ 27 a1) d12_9 sh_27 (by omega) (by decide) rfl).trans ?_
            refine (g_aload_n d12_10 rfl rfl).trans ?_
            refine (g_getR (q := 28) d12_11 f1_15 sh_2 (by decide) rfl).trans ?_
            refine (g_iload_n d12_14 rfl).trans ?_
            refine (j_ialoadB (v := ρ 28 a1) d12_15 sh_28 (by omega) (by decide) rfl).trans ?_
            refine (g_cV d12_16 k1_35 rfl rfl rfl).trans ?_
            show G 36 0 [some (.ref 1), some (vI (ρ 27 a1)), some (vI (ρ 28 a1))] [] (toM ρ τ) _ = _
            refine (c_true hT.1 (by omega) (by omega)).trans ?_
            show G 12 19 (some (.ref 2) :: some (vI a1) :: []) [vI (ρ 10 (ρ 27 a1) + (ρ 28 a1))] (toM ρ τ) _ = _
            have q25 := hT.1 10 (ρ 27 a1) (by decide)
            refine (g_iret d12_19 rfl rfl).trans ?_
            show G 15 10 (some (.ref 2) :: some (vI a1) :: some (vI a2) :: []) [vI (ρ 10 (ρ 27 a1) + (ρ 28 a1)), vI (ρ 10 (ρ 27 a2) + (ρ 28 a2))] (toM ρ τ) _ = _
            refine (g_aload_n d15_10 rfl rfl).trans ?_
            refine (g_getR (q := 29) d15_11 f1_18 sh_2 (by decide) rfl).trans ?_
            refine (g_iload_n d15_14 rfl).trans ?_
            refine (j_ialoadB (v := ρ 29 a1) d15_15 sh_29 (by omega) (by decide) rfl).trans ?_
            have q26 : 0 ≤ ρ 29 a1 ∧ ρ 29 a1 ≤ 99 := hT.2 29 a1
            refine (j_iadd d15_16).trans ?_
            refine (g_aload_n d15_17 rfl rfl).trans ?_
            refine (g_getR (q := 1) d15_18 f1_27 sh_2 (by decide) rfl).trans ?_
            refine (g_aload_n d15_21 rfl rfl).trans ?_
            refine (g_getR (q := 27) d15_22 f1_9 sh_2 (by decide) rfl).trans ?_
            refine (g_iload_n d15_25 rfl).trans ?_
            refine (j_ialoadB (v := ρ 27 a1) d15_26 sh_27 (by omega) (by decide) rfl).trans ?_
            refine (g_aload_n d15_27 rfl rfl).trans ?_
            refine (g_getR (q := 27) d15_28 f1_9 sh_2 (by decide) rfl).trans ?_
            refine (g_iload_n d15_31 rfl).trans ?_
            refine (j_ialoadB (v := ρ 27 a2) d15_32 sh_27 (by omega) (by decide) rfl).trans ?_
            refine (g_cV d15_33 k1_45 rfl rfl rfl).trans ?_
            show G 33 0 [some (.ref 1), some (vI (ρ 27 a1)), some (vI (ρ 27 a2))] [] (toM ρ τ) _ = _
            refine (c_dist hT.1 (by omega) (by omega)).trans ?_
            show G 15 36 (some (.ref 2) :: some (vI a1) :: some (vI a2) :: []) [vI (ρ (17 + (ρ 27 a1).toNat) (ρ 27 a2)), vI ((ρ 10 (ρ 27 a1) + (ρ 28 a1)) + (ρ 29 a1)), vI (ρ 10 (ρ 27 a2) + (ρ 28 a2))] (toM ρ τ) _ = _
            have q27 := TI.row hT (k := 17 + (ρ 27 a1).toNat) (by omega) (ρ 27 a2)
            refine (j_iadd d15_36).trans ?_
            refine (j_isub d15_37).trans ?_
            refine (g_iret d15_38 rfl rfl).trans ?_
            show G 16 15 (some (.ref 2) :: some (vI a1) :: some (vI a2) :: []) [vI ((ρ 10 (ρ 27 a2) + (ρ 28 a2)) - (((ρ 10 (ρ 27 a1) + (ρ 28 a1)) + (ρ 29 a1)) + (ρ (17 + (ρ 27 a1).toNat) (ρ 27 a2))))] (toM ρ τ) _ = _
            refine j_if_lt (tgt := 22) d16_15 (by decide) (by omega) (fun q28 => ?_) (fun q28 => ?_)
            ·
              refine (j_iconst d16_22).trans ?_
              refine (g_iret d16_23 rfl rfl).trans ?_
              show G 97 34 (some (.ref 0) :: some (vI a1) :: some (vI a2) :: []) [vI 0] (toM ρ τ) _ = _
              refine ((g_if_eq (tgt := 52) d97_34 (by decide)).trans (if_pos (by decide))).trans ?_
              refine (j_iconst d97_52).trans ?_
              exact g_iret d97_53 rfl rfl
            ·
              refine (j_iconst d16_18).trans ?_
              refine (g_goto (tgt := 23) d16_19 (by decide)).trans ?_
              refine (g_iret d16_23 rfl rfl).trans ?_
              show G 97 34 (some (.ref 0) :: some (vI a1) :: some (vI a2) :: []) [vI 1] (toM ρ τ) _ = _
              refine ((g_if_eq (tgt := 52) d97_34 (by decide)).trans (if_neg (by decide))).trans ?_
              refine (g_aload_n d97_37 rfl rfl).trans ?_
              refine (g_getR (q := 2) d97_38 f9_21 sh_0 (by decide) rfl).trans ?_
              refine (g_iload_n d97_41 rfl).trans ?_
              refine (g_iload_n d97_42 rfl).trans ?_
              refine (g_cV d97_43 k9_178 rfl rfl rfl).trans ?_
              show G 15 0 (some (.ref 2) :: some (vI a1) :: some (vI a2) :: []) [] (toM ρ τ) _ = _
              refine (g_aload_n d15_0 rfl rfl).trans ?_
              refine (g_iload_n d15_1 rfl).trans ?_
              refine (g_cV d15_2 k1_41 rfl rfl rfl).trans ?_
              show G 12 0 (some (.ref 2) :: some (vI a2) :: []) [] (toM ρ τ) _ = _
              refine (g_aload_n d12_0 rfl rfl).trans ?_
              refine (g_getR (q := 1) d12_1 f1_27 sh_2 (by decide) rfl).trans ?_
              refine (g_aload_n d12_4 rfl rfl).trans ?_
              refine (g_getR (q := 27) d12_5 f1_9 sh_2 (by decide) rfl).trans ?_
              refine (g_iload_n d12_8 rfl).trans ?_
              refine (j_ialoadB (v := ρ 27 a2) d12_9 sh_27 (by omega) (by decide) rfl).trans ?_
              refine (g_aload_n d12_10 rfl rfl).trans ?_
              refine (g_getR (q := 28) d12_11 f1_15 sh_2 (by decide) rfl).trans ?_
              refine (g_iload_n d12_14 rfl).trans ?_
              refine (j_ialoadB (v := ρ 28 a2) d12_15 sh_28 (by omega) (by decide) rfl).trans ?_
              refine (g_cV d12_16 k1_35 rfl rfl rfl).trans ?_
              show G 36 0 [some (.ref 1), some (vI (ρ 27 a2)), some (vI (ρ 28 a2))] [] (toM ρ τ) _ = _
              refine (c_true hT.1 (by omega) (by omega)).trans ?_
              show G 12 19 (some (.ref 2) :: some (vI a2) :: []) [vI (ρ 10 (ρ 27 a2) + (ρ 28 a2))] (toM ρ τ) _ = _
              have q29 := hT.1 10 (ρ 27 a2) (by decide)
              refine (g_iret d12_19 rfl rfl).trans ?_
              show G 15 5 (some (.ref 2) :: some (vI a1) :: some (vI a2) :: []) [vI (ρ 10 (ρ 27 a2) + (ρ 28 a2))] (toM ρ τ) _ = _
              refine (g_aload_n d15_5 rfl rfl).trans ?_
              refine (g_iload_n d15_6 rfl).trans ?_
              refine (g_cV d15_7 k1_41 rfl rfl rfl).trans ?_
              show G 12 0 (some (.ref 2) :: some (vI a1) :: []) [] (toM ρ τ) _ = _
              refine (g_aload_n d12_0 rfl rfl).trans ?_
              refine (g_getR (q := 1) d12_1 f1_27 sh_2 (by decide) rfl).trans ?_
              refine (g_aload_n d12_4 rfl rfl).trans ?_
              refine (g_getR (q := 27) d12_5 f1_9 sh_2 (by decide) rfl).trans ?_
              refine (g_iload_n d12_8 rfl).trans ?_
              refine (j_ialoadB (v := ρ 27 a1) d12_9 sh_27 (by omega) (by decide) rfl).trans ?_
              refine (g_aload_n d12_10 rfl rfl).trans ?_
              refine (g_getR (q := 28) d12_11 f1_15 sh_2 (by decide) rfl).trans ?_
              refine (g_iload_n d12_14 rfl).trans ?_
              refine (j_ialoadB (v := ρ 28 a1) d12_15 sh_28 (by omega) (by decide) rfl).trans ?_
              refine (g_cV d12_16 k1_35 rfl rfl rfl).trans ?_
              show G 36 0 [some (.ref 1), some (vI (ρ 27 a1)), some (vI (ρ 28 a1))] [] (toM ρ τ) _ = _
              refine (c_true hT.1 (by omega) (by omega)).trans ?_
              show G 12 19 (some (.ref 2) :: some (vI a1) :: []) [vI (ρ 10 (ρ 27 a1) + (ρ 28 a1))] (toM ρ τ) _ = _
              have q30 := hT.1 10 (ρ 27 a1) (by decide)
              refine (g_iret d12_19 rfl rfl).trans ?_
              show G 15 10 (some (.ref 2) :: some (vI a1) :: some (vI a2) :: []) [vI (ρ 10 (ρ 27 a1) + (ρ 28 a1)), vI (ρ 10 (ρ 27 a2) + (ρ 28 a2))] (toM ρ τ) _ = _
              refine (g_aload_n d15_10 rfl rfl).trans ?_
              refine (g_getR (q := 29) d15_11 f1_18 sh_2 (by decide) rfl).trans ?_
              refine (g_iload_n d15_14 rfl).trans ?_
              refine (j_ialoadB (v := ρ 29 a1) d15_15 sh_29 (by omega) (by decide) rfl).trans ?_
              refine (j_iadd d15_16).trans ?_
              refine (g_aload_n d15_17 rfl rfl).trans ?_
              refine (g_getR (q := 1) d15_18 f1_27 sh_2 (by decide) rfl).trans ?_
              refine (g_aload_n d15_21 rfl rfl).trans ?_
              refine (g_getR (q := 27) d15_22 f1_9 sh_2 (by decide) rfl).trans ?_
              refine (g_iload_n d15_25 rfl).trans ?_
              refine (j_ialoadB (v := ρ 27 a1) d15_26 sh_27 (by omega) (by decide) rfl).trans ?_
              refine (g_aload_n d15_27 rfl rfl).trans ?_
              refine (g_getR (q := 27) d15_28 f1_9 sh_2 (by decide) rfl).trans ?_
              refine (g_iload_n d15_31 rfl).trans ?_
              refine (j_ialoadB (v := ρ 27 a2) d15_32 sh_27 (by omega) (by decide) rfl).trans ?_
              refine (g_cV d15_33 k1_45 rfl rfl rfl).trans ?_
              show G 33 0 [some (.ref 1), some (vI (ρ 27 a1)), some (vI (ρ 27 a2))] [] (toM ρ τ) _ = _
              refine (c_dist hT.1 (by omega) (by omega)).trans ?_
              show G 15 36 (some (.ref 2) :: some (vI a1) :: some (vI a2) :: []) [vI (ρ (17 + (ρ 27 a1).toNat) (ρ 27 a2)), vI ((ρ 10 (ρ 27 a1) + (ρ 28 a1)) + (ρ 29 a1)), vI (ρ 10 (ρ 27 a2) + (ρ 28 a2))] (toM ρ τ) _ = _
              have q31 := TI.row hT (k := 17 + (ρ 27 a1).toNat) (by omega) (ρ 27 a2)
              refine (j_iadd d15_36).trans ?_
              refine (j_isub d15_37).trans ?_
              refine (g_iret d15_38 rfl rfl).trans ?_
              show G 97 46 (some (.ref 0) :: some (vI a1) :: some (vI a2) :: []) [vI ((ρ 10 (ρ 27 a2) + (ρ 28 a2)) - (((ρ 10 (ρ 27 a1) + (ρ 28 a1)) + (ρ 29 a1)) + (ρ (17 + (ρ 27 a1).toNat) (ρ 27 a2))))] (toM ρ τ) _ = _
              refine (j_ldc (n := 100000) d97_46 cs9_136 (by decide)).trans ?_
              refine (j_iadd d97_48).trans ?_
              refine (g_goto (tgt := 53) d97_49 (by decide)).trans ?_
              exact g_iret d97_53 rfl rfl
        ·
          refine (j_iconst d14_35).trans ?_
          refine (g_iret d14_36 rfl rfl).trans ?_
          show G 16 6 (some (.ref 2) :: some (vI a1) :: some (vI a2) :: []) [vI 0] (toM ρ τ) _ = _
          refine ((g_if_eq (tgt := 22) d16_6 (by decide)).trans (if_pos (by decide))).trans ?_
          refine (j_iconst d16_22).trans ?_
          refine (g_iret d16_23 rfl rfl).trans ?_
          show G 97 34 (some (.ref 0) :: some (vI a1) :: some (vI a2) :: []) [vI 0] (toM ρ τ) _ = _
          refine ((g_if_eq (tgt := 52) d97_34 (by decide)).trans (if_pos (by decide))).trans ?_
          refine (j_iconst d97_52).trans ?_
          exact g_iret d97_53 rfl rfl
    ·
      refine (j_bipush d97_22 (by decide)).trans ?_
      exact g_iret d97_24 rfl rfl
  ·
    refine (j_bipush d97_22 (by decide)).trans ?_
    exact g_iret d97_24 rfl rfl
set_option maxRecDepth 10000 in
theorem s99 {Q : Option Value → mm → Prop} (ρ : rm) (τ : Int64) (a1 : Int) (hT : TI ρ) (h_a1 : SB a1) : G 99 0 (some (.ref 0) :: some (vI a1) :: []) [] (toM ρ τ) Q = (if 0 ≤ a1 ∧ a1 < ρ 1 1 then (if (ρ 7 0) < 12 then Q (some (vI ((ρ 7 0) + 1))) (toM (rup (rup ρ 42 (ρ 7 0) a1) 7 0 ((ρ 7 0) + 1)) τ) else Q (some (vI (-5))) (toM ρ τ)) else Q (some (vI (-2))) (toM ρ τ)) := by
  refine (g_aload_n d99_0 rfl rfl).trans ?_
  refine (g_getR (q := 1) d99_1 f9_10 sh_0 (by decide) rfl).trans ?_
  refine (g_iload_n d99_4 rfl).trans ?_
  refine (g_cV d99_5 k9_114 rfl rfl rfl).trans ?_
  show G 32 0 [some (.ref 1), some (vI a1)] [] (toM ρ τ) _ = _
  refine (c_has hT.1 (by omega)).trans ?_
  show G 99 8 (some (.ref 0) :: some (vI a1) :: []) [vI (tv (0 ≤ a1 ∧ a1 < ρ 1 1))] (toM ρ τ) _ = _
  have q1 := (show 2 ≤ ρ 1 1 ∧ ρ 1 1 ≤ 10 from hT.2 1 1)
  refine j_ifT_eq (tgt := 22) d99_8 (by decide) (fun q2 => ?_) (fun q2 => ?_)
  ·
    refine (g_aload_n d99_11 rfl rfl).trans ?_
    refine (g_getR (q := 7) d99_12 f9_58 sh_0 (by decide) rfl).trans ?_
    refine (g_iload_n d99_15 rfl).trans ?_
    refine (g_cV d99_16 k9_190 rfl rfl rfl).trans ?_
    show G 72 0 (some (.ref 7) :: some (vI a1) :: []) [] (toM ρ τ) _ = _
    refine (g_aload_n d72_0 rfl rfl).trans ?_
    refine (j_getI (v := ρ 7 0) d72_1 f7_19 sh_7 (by decide) rfl rfl).trans ?_
    have q3 : 0 ≤ ρ 7 0 ∧ ρ 7 0 ≤ 12 := hT.2 7 0
    refine (j_bipush d72_4 (by decide)).trans ?_
    refine j_icmp_lt (tgt := 12) d72_6 (by decide) (by omega) (by omega) (fun q4 => ?_) (fun q4 => ?_)
    ·
      refine (g_aload_n d72_12 rfl rfl).trans ?_
      refine (g_getR (q := 42) d72_13 f7_9 sh_7 (by decide) rfl).trans ?_
      refine (g_aload_n d72_16 rfl rfl).trans ?_
      refine (j_getI (v := ρ 7 0) d72_17 f7_19 sh_7 (by decide) rfl rfl).trans ?_
      refine (g_iload_n d72_20 rfl).trans ?_
      refine (j_iastoreB d72_21 sh_42 (by omega) (by decide)).trans ?_
      refine (g_aload_n d72_22 rfl rfl).trans ?_
      refine (g_dupR d72_23).trans ?_
      refine (j_getI (v := ρ 7 0) d72_24 f7_19 sh_7 (by decide) rfl (by simp [rup])).trans ?_
      refine (j_iconst d72_27).trans ?_
      refine (j_iadd d72_28).trans ?_
      refine (j_putI d72_29 f7_19 sh_7 (by decide) rfl).trans ?_
      refine (g_aload_n d72_32 rfl rfl).trans ?_
      refine (j_getI (v := (ρ 7 0) + 1) d72_33 f7_19 sh_7 (by decide) rfl (by simp [rup])).trans ?_
      refine (g_iret d72_36 rfl rfl).trans ?_
      show G 99 19 (some (.ref 0) :: some (vI a1) :: []) [vI ((ρ 7 0) + 1)] (toM (rup (rup ρ 42 (ρ 7 0) a1) 7 0 ((ρ 7 0) + 1)) τ) _ = _
      refine (g_goto (tgt := 24) d99_19 (by decide)).trans ?_
      exact g_iret d99_24 rfl rfl
    ·
      refine (j_bipush d72_9 (by decide)).trans ?_
      refine (g_iret d72_11 rfl rfl).trans ?_
      show G 99 19 (some (.ref 0) :: some (vI a1) :: []) [vI (-5)] (toM ρ τ) _ = _
      refine (g_goto (tgt := 24) d99_19 (by decide)).trans ?_
      exact g_iret d99_24 rfl rfl
  ·
    refine (j_bipush d99_22 (by decide)).trans ?_
    exact g_iret d99_24 rfl rfl
set_option maxRecDepth 10000 in
theorem s100 {Q : Option Value → mm → Prop} (ρ : rm) (τ : Int64)  (hT : TI ρ)  : G 100 0 (some (.ref 0) :: []) [] (toM ρ τ) Q = Q (some (vI (ρ 7 0))) (toM (rup ρ 7 0 0) τ) := by
  refine (g_aload_n d100_0 rfl rfl).trans ?_
  refine (g_getR (q := 7) d100_1 f9_58 sh_0 (by decide) rfl).trans ?_
  refine (g_cV d100_4 k9_111 rfl rfl rfl).trans ?_
  show G 73 0 (some (.ref 7) :: []) [] (toM ρ τ) _ = _
  refine (g_aload_n d73_0 rfl rfl).trans ?_
  refine (j_getI (v := ρ 7 0) d73_1 f7_19 sh_7 (by decide) rfl rfl).trans ?_
  have q1 : 0 ≤ ρ 7 0 ∧ ρ 7 0 ≤ 12 := hT.2 7 0
  refine (g_istore_n d73_4 (by decide) rfl rfl).trans ?_
  refine (g_aload_n d73_5 rfl rfl).trans ?_
  refine (j_iconst d73_6).trans ?_
  refine (j_putI d73_7 f7_19 sh_7 (by decide) rfl).trans ?_
  refine (g_iload_n d73_10 rfl).trans ?_
  refine (g_iret d73_11 rfl rfl).trans ?_
  show G 100 7 (some (.ref 0) :: []) [vI (ρ 7 0)] (toM (rup ρ 7 0 0) τ) _ = _
  exact g_iret d100_7 rfl rfl
set_option maxRecDepth 10000 in
theorem s103 {Q : Option Value → mm → Prop} (ρ : rm) (τ : Int64) (a1 : Int) (a2 : Int) (a3 : Int) (a4 : Int) (hT : TI ρ) (h_a1 : SB a1) (h_a2 : SB a2) (h_a3 : SB a3) (h_a4 : SB a4) : G 103 0 (some (.ref 0) :: some (vI a1) :: some (vI a2) :: some (vI a3) :: some (vI a4) :: []) [] (toM ρ τ) Q = (if 0 ≤ a1 ∧ a1 < ρ 1 1 then (if 0 ≤ a3 ∧ a3 < ρ 1 1 then (if 0 ≤ a2 ∧ a2 < 1440 then (if 0 ≤ a4 ∧ a4 < 1440 then (if a1 = a3 then Q (some (vI (-3))) (toM ρ τ) else (if (ρ 8 0) < 10 then Q (some (vI ((ρ 8 0) + 1))) (toM (rup (rup (rup (rup ρ 43 (ρ 8 0) a1) 44 (ρ 8 0) a3) 45 (ρ 8 0) ((((a2 + (ρ 10 a1)) - a4) - (ρ 10 a3)) % 1440)) 8 0 ((ρ 8 0) + 1)) τ) else Q (some (vI (-5))) (toM ρ τ))) else Q (some (vI (-3))) (toM ρ τ)) else Q (some (vI (-3))) (toM ρ τ)) else Q (some (vI (-2))) (toM ρ τ)) else Q (some (vI (-2))) (toM ρ τ)) := by
  refine (g_aload_n d103_0 rfl rfl).trans ?_
  refine (g_getR (q := 1) d103_1 f9_10 sh_0 (by decide) rfl).trans ?_
  refine (g_iload_n d103_4 rfl).trans ?_
  refine (g_cV d103_5 k9_114 rfl rfl rfl).trans ?_
  show G 32 0 [some (.ref 1), some (vI a1)] [] (toM ρ τ) _ = _
  refine (c_has hT.1 (by omega)).trans ?_
  show G 103 8 (some (.ref 0) :: some (vI a1) :: some (vI a2) :: some (vI a3) :: some (vI a4) :: []) [vI (tv (0 ≤ a1 ∧ a1 < ρ 1 1))] (toM ρ τ) _ = _
  have q1 := (show 2 ≤ ρ 1 1 ∧ ρ 1 1 ≤ 10 from hT.2 1 1)
  refine j_ifT_eq (tgt := 22) d103_8 (by decide) (fun q2 => ?_) (fun q2 => ?_)
  ·
    refine (g_aload_n d103_11 rfl rfl).trans ?_
    refine (g_getR (q := 1) d103_12 f9_10 sh_0 (by decide) rfl).trans ?_
    refine (g_iload_n d103_15 rfl).trans ?_
    refine (g_cV d103_16 k9_114 rfl rfl rfl).trans ?_
    show G 32 0 [some (.ref 1), some (vI a3)] [] (toM ρ τ) _ = _
    refine (c_has hT.1 (by omega)).trans ?_
    show G 103 19 (some (.ref 0) :: some (vI a1) :: some (vI a2) :: some (vI a3) :: some (vI a4) :: []) [vI (tv (0 ≤ a3 ∧ a3 < ρ 1 1))] (toM ρ τ) _ = _
    have q3 := (show 2 ≤ ρ 1 1 ∧ ρ 1 1 ≤ 10 from hT.2 1 1)
    refine j_ifT_ne (tgt := 25) d103_19 (by decide) (fun q4 => ?_) (fun q4 => ?_)
    ·
      refine (g_iload_n d103_25 rfl).trans ?_
      refine (g_cS d103_26 k9_220 rfl rfl rfl).trans ?_
      show G 114 0 [some (vI a2)] [] (toM ρ τ) _ = _
      refine (c_isClock hT (by omega)).trans ?_
      show G 103 29 (some (.ref 0) :: some (vI a1) :: some (vI a2) :: some (vI a3) :: some (vI a4) :: []) [vI (tv (0 ≤ a2 ∧ a2 < 1440))] (toM ρ τ) _ = _
      refine j_ifT_eq (tgt := 45) d103_29 (by decide) (fun q5 => ?_) (fun q5 => ?_)
      ·
        refine (g_iload d103_32 rfl).trans ?_
        refine (g_cS d103_34 k9_220 rfl rfl rfl).trans ?_
        show G 114 0 [some (vI a4)] [] (toM ρ τ) _ = _
        refine (c_isClock hT (by omega)).trans ?_
        show G 103 37 (some (.ref 0) :: some (vI a1) :: some (vI a2) :: some (vI a3) :: some (vI a4) :: []) [vI (tv (0 ≤ a4 ∧ a4 < 1440))] (toM ρ τ) _ = _
        refine j_ifT_eq (tgt := 45) d103_37 (by decide) (fun q6 => ?_) (fun q6 => ?_)
        ·
          refine (g_iload_n d103_40 rfl).trans ?_
          refine (g_iload_n d103_41 rfl).trans ?_
          refine j_icmp_ne (tgt := 48) d103_42 (by decide) (by omega) (by omega) (fun q7 => ?_) (fun q7 => ?_)
          ·
            refine (j_bipush d103_45 (by decide)).trans ?_
            exact g_iret d103_47 rfl rfl
          ·
            refine (g_aload_n d103_48 rfl rfl).trans ?_
            refine (g_getR (q := 8) d103_49 f9_65 sh_0 (by decide) rfl).trans ?_
            refine (g_iload_n d103_52 rfl).trans ?_
            refine (g_iload_n d103_53 rfl).trans ?_
            refine (g_iload_n d103_54 rfl).trans ?_
            refine (g_iload d103_55 rfl).trans ?_
            refine (g_cV d103_57 k9_223 rfl rfl rfl).trans ?_
            show G 1 0 (some (.ref 8) :: some (vI a1) :: some (vI a2) :: some (vI a3) :: some (vI a4) :: []) [] (toM ρ τ) _ = _
            refine (g_aload_n d1_0 rfl rfl).trans ?_
            refine (j_getI (v := ρ 8 0) d1_1 f0_31 sh_8 (by decide) rfl rfl).trans ?_
            have q8 : 0 ≤ ρ 8 0 ∧ ρ 8 0 ≤ 10 := hT.2 8 0
            refine (j_bipush d1_4 (by decide)).trans ?_
            refine j_icmp_lt (tgt := 12) d1_6 (by decide) (by omega) (by omega) (fun q9 => ?_) (fun q9 => ?_)
            ·
              refine (g_aload_n d1_12 rfl rfl).trans ?_
              refine (g_getR (q := 43) d1_13 f0_9 sh_8 (by decide) rfl).trans ?_
              refine (g_aload_n d1_16 rfl rfl).trans ?_
              refine (j_getI (v := ρ 8 0) d1_17 f0_31 sh_8 (by decide) rfl rfl).trans ?_
              refine (g_iload_n d1_20 rfl).trans ?_
              refine (j_iastoreB d1_21 sh_43 (by omega) (by decide)).trans ?_
              refine (g_aload_n d1_22 rfl rfl).trans ?_
              refine (g_getR (q := 44) d1_23 f0_15 sh_8 (by decide) rfl).trans ?_
              refine (g_aload_n d1_26 rfl rfl).trans ?_
              refine (j_getI (v := ρ 8 0) d1_27 f0_31 sh_8 (by decide) rfl (by simp [rup])).trans ?_
              refine (g_iload_n d1_30 rfl).trans ?_
              refine (j_iastoreB d1_31 sh_44 (by omega) (by decide)).trans ?_
              refine (g_aload_n d1_32 rfl rfl).trans ?_
              refine (g_getR (q := 45) d1_33 f0_18 sh_8 (by decide) rfl).trans ?_
              refine (g_aload_n d1_36 rfl rfl).trans ?_
              refine (j_getI (v := ρ 8 0) d1_37 f0_31 sh_8 (by decide) rfl (by simp [rup])).trans ?_
              refine (g_iload_n d1_40 rfl).trans ?_
              refine (g_aload_n d1_41 rfl rfl).trans ?_
              refine (g_getR (q := 1) d1_42 f0_27 sh_8 (by decide) rfl).trans ?_
              refine (g_getR (q := 10) d1_45 f0_35 sh_1 (by decide) rfl).trans ?_
              refine (g_iload_n d1_48 rfl).trans ?_
              refine (j_ialoadB (v := ρ 10 a1) d1_49 sh_10 (by omega) (by decide) (by simp [rup])).trans ?_
              have q10 : 0 ≤ ρ 10 a1 ∧ ρ 10 a1 ≤ 8991 := hT.2 10 a1
              refine (j_iadd d1_50).trans ?_
              refine (g_iload d1_51 rfl).trans ?_
              refine (j_isub d1_53).trans ?_
              refine (g_aload_n d1_54 rfl rfl).trans ?_
              refine (g_getR (q := 1) d1_55 f0_27 sh_8 (by decide) rfl).trans ?_
              refine (g_getR (q := 10) d1_58 f0_35 sh_1 (by decide) rfl).trans ?_
              refine (g_iload_n d1_61 rfl).trans ?_
              refine (j_ialoadB (v := ρ 10 a3) d1_62 sh_10 (by omega) (by decide) (by simp [rup])).trans ?_
              have q11 : 0 ≤ ρ 10 a3 ∧ ρ 10 a3 ≤ 8991 := hT.2 10 a3
              refine (j_isub d1_63).trans ?_
              refine (j_sipush d1_64 (by decide)).trans ?_
              refine (g_cS d1_67 k0_40 rfl rfl rfl).trans ?_
              show G 182 0 [some (vI (((a2 + (ρ 10 a1)) - a4) - (ρ 10 a3))), some (vI 1440)] [] (toM (rup (rup ρ 43 (ρ 8 0) a1) 44 (ρ 8 0) a3) τ) _ = _
              refine (c_fmod (BM_up (BM_up hT.1 43 (ρ 8 0) (x := a1) (by omega)) 44 (ρ 8 0) (x := a3) (by omega)) (by omega)).trans ?_
              show G 1 70 (some (.ref 8) :: some (vI a1) :: some (vI a2) :: some (vI a3) :: some (vI a4) :: []) [vI ((((a2 + (ρ 10 a1)) - a4) - (ρ 10 a3)) % 1440), vI (ρ 8 0), .ref 45] (toM (rup (rup ρ 43 (ρ 8 0) a1) 44 (ρ 8 0) a3) τ) _ = _
              refine (j_iastoreB d1_70 sh_45 (by omega) (by decide)).trans ?_
              refine (g_aload_n d1_71 rfl rfl).trans ?_
              refine (g_dupR d1_72).trans ?_
              refine (j_getI (v := ρ 8 0) d1_73 f0_31 sh_8 (by decide) rfl (by simp [rup])).trans ?_
              refine (j_iconst d1_76).trans ?_
              refine (j_iadd d1_77).trans ?_
              refine (j_putI d1_78 f0_31 sh_8 (by decide) rfl).trans ?_
              refine (g_aload_n d1_81 rfl rfl).trans ?_
              refine (j_getI (v := (ρ 8 0) + 1) d1_82 f0_31 sh_8 (by decide) rfl (by simp [rup])).trans ?_
              refine (g_iret d1_85 rfl rfl).trans ?_
              show G 103 60 (some (.ref 0) :: some (vI a1) :: some (vI a2) :: some (vI a3) :: some (vI a4) :: []) [vI ((ρ 8 0) + 1)] (toM (rup (rup (rup (rup ρ 43 (ρ 8 0) a1) 44 (ρ 8 0) a3) 45 (ρ 8 0) ((((a2 + (ρ 10 a1)) - a4) - (ρ 10 a3)) % 1440)) 8 0 ((ρ 8 0) + 1)) τ) _ = _
              exact g_iret d103_60 rfl rfl
            ·
              refine (j_bipush d1_9 (by decide)).trans ?_
              refine (g_iret d1_11 rfl rfl).trans ?_
              show G 103 60 (some (.ref 0) :: some (vI a1) :: some (vI a2) :: some (vI a3) :: some (vI a4) :: []) [vI (-5)] (toM ρ τ) _ = _
              exact g_iret d103_60 rfl rfl
        ·
          refine (j_bipush d103_45 (by decide)).trans ?_
          exact g_iret d103_47 rfl rfl
      ·
        refine (j_bipush d103_45 (by decide)).trans ?_
        exact g_iret d103_47 rfl rfl
    ·
      refine (j_bipush d103_22 (by decide)).trans ?_
      exact g_iret d103_24 rfl rfl
  ·
    refine (j_bipush d103_22 (by decide)).trans ?_
    exact g_iret d103_24 rfl rfl
set_option maxRecDepth 10000 in
theorem s104 {Q : Option Value → mm → Prop} (ρ : rm) (τ : Int64)  (hT : TI ρ)  : G 104 0 (some (.ref 0) :: []) [] (toM ρ τ) Q = Q (some (vI (ρ 8 0))) (toM (rup ρ 8 0 0) τ) := by
  refine (g_aload_n d104_0 rfl rfl).trans ?_
  refine (g_getR (q := 8) d104_1 f9_65 sh_0 (by decide) rfl).trans ?_
  refine (g_cV d104_4 k9_112 rfl rfl rfl).trans ?_
  show G 2 0 (some (.ref 8) :: []) [] (toM ρ τ) _ = _
  refine (g_aload_n d2_0 rfl rfl).trans ?_
  refine (j_getI (v := ρ 8 0) d2_1 f0_31 sh_8 (by decide) rfl rfl).trans ?_
  have q1 : 0 ≤ ρ 8 0 ∧ ρ 8 0 ≤ 10 := hT.2 8 0
  refine (g_istore_n d2_4 (by decide) rfl rfl).trans ?_
  refine (g_aload_n d2_5 rfl rfl).trans ?_
  refine (j_iconst d2_6).trans ?_
  refine (j_putI d2_7 f0_31 sh_8 (by decide) rfl).trans ?_
  refine (g_iload_n d2_10 rfl).trans ?_
  refine (g_iret d2_11 rfl rfl).trans ?_
  show G 104 7 (some (.ref 0) :: []) [vI (ρ 8 0)] (toM (rup ρ 8 0 0) τ) _ = _
  exact g_iret d104_7 rfl rfl
set_option maxRecDepth 10000 in
theorem s106 {Q : Option Value → mm → Prop} (ρ : rm) (τ : Int64) (a1 : Int) (a2 : Int) (a3 : Int) (hT : TI ρ) (h_a1 : SB a1) (h_a2 : SB a2) (h_a3 : SB a3) : G 106 0 (some (.ref 0) :: some (vI a1) :: some (vI a2) :: some (vI a3) :: []) [] (toM ρ τ) Q = (if a1 < 0 then Q (some (vI (-2))) (toM ρ τ) else (if 6 ≤ a1 then Q (some (vI (-2))) (toM ρ τ) else (if 0 ≤ a2 ∧ a2 < ρ 1 1 then (if 0 ≤ a3 ∧ a3 < 1440 then (if (ρ 9 0) < 12 then Q (some (vI ((ρ 9 0) + 1))) (toM (rup (rup (rup (rup ρ 48 (ρ 9 0) a1) 49 (ρ 9 0) a2) 50 (ρ 9 0) (ρ 10 a2 + a3)) 9 0 ((ρ 9 0) + 1)) τ) else Q (some (vI (-5))) (toM ρ τ)) else Q (some (vI (-3))) (toM ρ τ)) else Q (some (vI (-2))) (toM ρ τ)))) := by
  refine (g_iload_n d106_0 rfl).trans ?_
  refine j_if_lt (tgt := 21) d106_1 (by decide) (by omega) (fun q1 => ?_) (fun q1 => ?_)
  ·
    refine (j_bipush d106_21 (by decide)).trans ?_
    exact g_iret d106_23 rfl rfl
  ·
    refine (g_iload_n d106_4 rfl).trans ?_
    refine (j_bipush d106_5 (by decide)).trans ?_
    refine j_icmp_ge (tgt := 21) d106_7 (by decide) (by omega) (by omega) (fun q2 => ?_) (fun q2 => ?_)
    ·
      refine (j_bipush d106_21 (by decide)).trans ?_
      exact g_iret d106_23 rfl rfl
    ·
      refine (g_aload_n d106_10 rfl rfl).trans ?_
      refine (g_getR (q := 1) d106_11 f9_10 sh_0 (by decide) rfl).trans ?_
      refine (g_iload_n d106_14 rfl).trans ?_
      refine (g_cV d106_15 k9_114 rfl rfl rfl).trans ?_
      show G 32 0 [some (.ref 1), some (vI a2)] [] (toM ρ τ) _ = _
      refine (c_has hT.1 (by omega)).trans ?_
      show G 106 18 (some (.ref 0) :: some (vI a1) :: some (vI a2) :: some (vI a3) :: []) [vI (tv (0 ≤ a2 ∧ a2 < ρ 1 1))] (toM ρ τ) _ = _
      have q3 := (show 2 ≤ ρ 1 1 ∧ ρ 1 1 ≤ 10 from hT.2 1 1)
      refine j_ifT_ne (tgt := 24) d106_18 (by decide) (fun q4 => ?_) (fun q4 => ?_)
      ·
        refine (g_iload_n d106_24 rfl).trans ?_
        refine (g_cS d106_25 k9_220 rfl rfl rfl).trans ?_
        show G 114 0 [some (vI a3)] [] (toM ρ τ) _ = _
        refine (c_isClock hT (by omega)).trans ?_
        show G 106 28 (some (.ref 0) :: some (vI a1) :: some (vI a2) :: some (vI a3) :: []) [vI (tv (0 ≤ a3 ∧ a3 < 1440))] (toM ρ τ) _ = _
        refine j_ifT_eq (tgt := 44) d106_28 (by decide) (fun q5 => ?_) (fun q5 => ?_)
        ·
          refine (g_aload_n d106_31 rfl rfl).trans ?_
          refine (g_getR (q := 9) d106_32 f9_72 sh_0 (by decide) rfl).trans ?_
          refine (g_iload_n d106_35 rfl).trans ?_
          refine (g_iload_n d106_36 rfl).trans ?_
          refine (g_iload_n d106_37 rfl).trans ?_
          refine (g_cV d106_38 k9_233 rfl rfl rfl).trans ?_
          show G 63 0 (some (.ref 9) :: some (vI a1) :: some (vI a2) :: some (vI a3) :: []) [] (toM ρ τ) _ = _
          refine (g_aload_n d63_0 rfl rfl).trans ?_
          refine (j_getI (v := ρ 9 0) d63_1 f5_25 sh_9 (by decide) rfl rfl).trans ?_
          have q6 : 0 ≤ ρ 9 0 ∧ ρ 9 0 ≤ 12 := hT.2 9 0
          refine (j_bipush d63_4 (by decide)).trans ?_
          refine j_icmp_lt (tgt := 12) d63_6 (by decide) (by omega) (by omega) (fun q7 => ?_) (fun q7 => ?_)
          ·
            refine (g_aload_n d63_12 rfl rfl).trans ?_
            refine (g_getR (q := 48) d63_13 f5_9 sh_9 (by decide) rfl).trans ?_
            refine (g_aload_n d63_16 rfl rfl).trans ?_
            refine (j_getI (v := ρ 9 0) d63_17 f5_25 sh_9 (by decide) rfl rfl).trans ?_
            refine (g_iload_n d63_20 rfl).trans ?_
            refine (j_iastoreB d63_21 sh_48 (by omega) (by decide)).trans ?_
            refine (g_aload_n d63_22 rfl rfl).trans ?_
            refine (g_getR (q := 49) d63_23 f5_15 sh_9 (by decide) rfl).trans ?_
            refine (g_aload_n d63_26 rfl rfl).trans ?_
            refine (j_getI (v := ρ 9 0) d63_27 f5_25 sh_9 (by decide) rfl (by simp [rup])).trans ?_
            refine (g_iload_n d63_30 rfl).trans ?_
            refine (j_iastoreB d63_31 sh_49 (by omega) (by decide)).trans ?_
            refine (g_aload_n d63_32 rfl rfl).trans ?_
            refine (g_getR (q := 50) d63_33 f5_18 sh_9 (by decide) rfl).trans ?_
            refine (g_aload_n d63_36 rfl rfl).trans ?_
            refine (j_getI (v := ρ 9 0) d63_37 f5_25 sh_9 (by decide) rfl (by simp [rup])).trans ?_
            refine (g_aload_n d63_40 rfl rfl).trans ?_
            refine (g_getR (q := 1) d63_41 f5_21 sh_9 (by decide) rfl).trans ?_
            refine (g_iload_n d63_44 rfl).trans ?_
            refine (g_iload_n d63_45 rfl).trans ?_
            refine (g_cV d63_46 k5_29 rfl rfl rfl).trans ?_
            show G 36 0 [some (.ref 1), some (vI a2), some (vI a3)] [] (toM (rup (rup ρ 48 (ρ 9 0) a1) 49 (ρ 9 0) a2) τ) _ = _
            refine (c_true (BM_up (BM_up hT.1 48 (ρ 9 0) (x := a1) (by omega)) 49 (ρ 9 0) (x := a2) (by omega)) (by omega) (by omega)).trans ?_
            show G 63 49 (some (.ref 9) :: some (vI a1) :: some (vI a2) :: some (vI a3) :: []) [vI (ρ 10 a2 + a3), vI (ρ 9 0), .ref 50] (toM (rup (rup ρ 48 (ρ 9 0) a1) 49 (ρ 9 0) a2) τ) _ = _
            have q8 := hT.1 10 a2 (by decide)
            refine (j_iastoreB d63_49 sh_50 (by omega) (by decide)).trans ?_
            refine (g_aload_n d63_50 rfl rfl).trans ?_
            refine (g_dupR d63_51).trans ?_
            refine (j_getI (v := ρ 9 0) d63_52 f5_25 sh_9 (by decide) rfl (by simp [rup])).trans ?_
            refine (j_iconst d63_55).trans ?_
            refine (j_iadd d63_56).trans ?_
            refine (j_putI d63_57 f5_25 sh_9 (by decide) rfl).trans ?_
            refine (g_aload_n d63_60 rfl rfl).trans ?_
            refine (j_getI (v := (ρ 9 0) + 1) d63_61 f5_25 sh_9 (by decide) rfl (by simp [rup])).trans ?_
            refine (g_iret d63_64 rfl rfl).trans ?_
            show G 106 41 (some (.ref 0) :: some (vI a1) :: some (vI a2) :: some (vI a3) :: []) [vI ((ρ 9 0) + 1)] (toM (rup (rup (rup (rup ρ 48 (ρ 9 0) a1) 49 (ρ 9 0) a2) 50 (ρ 9 0) (ρ 10 a2 + a3)) 9 0 ((ρ 9 0) + 1)) τ) _ = _
            refine (g_goto (tgt := 46) d106_41 (by decide)).trans ?_
            exact g_iret d106_46 rfl rfl
          ·
            refine (j_bipush d63_9 (by decide)).trans ?_
            refine (g_iret d63_11 rfl rfl).trans ?_
            show G 106 41 (some (.ref 0) :: some (vI a1) :: some (vI a2) :: some (vI a3) :: []) [vI (-5)] (toM ρ τ) _ = _
            refine (g_goto (tgt := 46) d106_41 (by decide)).trans ?_
            exact g_iret d106_46 rfl rfl
        ·
          refine (j_bipush d106_44 (by decide)).trans ?_
          exact g_iret d106_46 rfl rfl
      ·
        refine (j_bipush d106_21 (by decide)).trans ?_
        exact g_iret d106_23 rfl rfl
set_option maxRecDepth 10000 in
theorem s107 {Q : Option Value → mm → Prop} (ρ : rm) (τ : Int64)  (hT : TI ρ)  : G 107 0 (some (.ref 0) :: []) [] (toM ρ τ) Q = Q (some (vI (ρ 9 0))) (toM (rup ρ 9 0 0) τ) := by
  refine (g_aload_n d107_0 rfl rfl).trans ?_
  refine (g_getR (q := 9) d107_1 f9_72 sh_0 (by decide) rfl).trans ?_
  refine (g_cV d107_4 k9_113 rfl rfl rfl).trans ?_
  show G 64 0 (some (.ref 9) :: []) [] (toM ρ τ) _ = _
  refine (g_aload_n d64_0 rfl rfl).trans ?_
  refine (j_getI (v := ρ 9 0) d64_1 f5_25 sh_9 (by decide) rfl rfl).trans ?_
  have q1 : 0 ≤ ρ 9 0 ∧ ρ 9 0 ≤ 12 := hT.2 9 0
  refine (g_istore_n d64_4 (by decide) rfl rfl).trans ?_
  refine (g_aload_n d64_5 rfl rfl).trans ?_
  refine (j_iconst d64_6).trans ?_
  refine (j_putI d64_7 f5_25 sh_9 (by decide) rfl).trans ?_
  refine (g_iload_n d64_10 rfl).trans ?_
  refine (g_iret d64_11 rfl rfl).trans ?_
  show G 107 7 (some (.ref 0) :: []) [vI (ρ 9 0)] (toM (rup ρ 9 0 0) τ) _ = _
  exact g_iret d107_7 rfl rfl
set_option maxRecDepth 10000 in
theorem s112 {Q : Option Value → mm → Prop} (ρ : rm) (τ : Int64) (a1 : Int) (hT : TI ρ) (h_a1 : SB a1) : G 112 0 (some (.ref 0) :: some (vI a1) :: []) [] (toM ρ τ) Q = (if a1 = 0 then Q (some (vI (ρ 1 1))) (toM ρ τ) else (if a1 = 1 then Q (some (vI (ρ 1 2))) (toM ρ τ) else (if a1 = 2 then Q (some (vI (ρ 2 4))) (toM ρ τ) else (if a1 = 3 then Q (some (vI (ρ 3 0))) (toM ρ τ) else (if a1 = 4 then Q (some (vI (ρ 7 0))) (toM ρ τ) else (if a1 = 5 then Q (some (vI (ρ 8 0))) (toM ρ τ) else (if a1 = 6 then Q (some (vI (ρ 9 0))) (toM ρ τ) else (if a1 = 7 then Q (some (vI (ρ 4 1))) (toM ρ τ) else Q (some (vI (-3))) (toM ρ τ))))))))) := by
  refine (g_iload_n d112_0 rfl).trans ?_
  refine sw_case (c := 0) (fun q1 => ?_) (fun q1 => ?_)
  ·
    refine (g_tableIn (off := 47) (tgt := 48) d112_1 (by rw [iI_toInt (by omega)]; omega) (by rw [iI_toInt (by omega), q1]; rfl) (by decide)).trans ?_
    refine (g_aload_n d112_48 rfl rfl).trans ?_
    refine (g_getR (q := 1) d112_49 f9_10 sh_0 (by decide) rfl).trans ?_
    refine (j_getI (v := ρ 1 1) d112_52 f9_84 sh_1 (by decide) rfl rfl).trans ?_
    have q2 : 2 ≤ ρ 1 1 ∧ ρ 1 1 ≤ 10 := hT.2 1 1
    exact g_iret d112_55 rfl rfl
  ·
    refine sw_case (c := 1) (fun q3 => ?_) (fun q3 => ?_)
    ·
      refine (g_tableIn (off := 55) (tgt := 56) d112_1 (by rw [iI_toInt (by omega)]; omega) (by rw [iI_toInt (by omega), q3]; rfl) (by decide)).trans ?_
      refine (g_aload_n d112_56 rfl rfl).trans ?_
      refine (g_getR (q := 1) d112_57 f9_10 sh_0 (by decide) rfl).trans ?_
      refine (j_getI (v := ρ 1 2) d112_60 f9_88 sh_1 (by decide) rfl rfl).trans ?_
      have q4 : 0 ≤ ρ 1 2 ∧ ρ 1 2 ≤ 8 := hT.2 1 2
      exact g_iret d112_63 rfl rfl
    ·
      refine sw_case (c := 2) (fun q5 => ?_) (fun q5 => ?_)
      ·
        refine (g_tableIn (off := 63) (tgt := 64) d112_1 (by rw [iI_toInt (by omega)]; omega) (by rw [iI_toInt (by omega), q5]; rfl) (by decide)).trans ?_
        refine (g_aload_n d112_64 rfl rfl).trans ?_
        refine (g_getR (q := 2) d112_65 f9_21 sh_0 (by decide) rfl).trans ?_
        refine (j_getI (v := ρ 2 4) d112_68 f9_91 sh_2 (by decide) rfl rfl).trans ?_
        have q6 : 0 ≤ ρ 2 4 ∧ ρ 2 4 ≤ 10 := hT.2 2 4
        exact g_iret d112_71 rfl rfl
      ·
        refine sw_case (c := 3) (fun q7 => ?_) (fun q7 => ?_)
        ·
          refine (g_tableIn (off := 71) (tgt := 72) d112_1 (by rw [iI_toInt (by omega)]; omega) (by rw [iI_toInt (by omega), q7]; rfl) (by decide)).trans ?_
          refine (g_aload_n d112_72 rfl rfl).trans ?_
          refine (g_getR (q := 3) d112_73 f9_28 sh_0 (by decide) rfl).trans ?_
          refine (j_getI (v := ρ 3 0) d112_76 f9_92 sh_3 (by decide) rfl rfl).trans ?_
          have q8 : 0 ≤ ρ 3 0 ∧ ρ 3 0 ≤ 6 := hT.2 3 0
          exact g_iret d112_79 rfl rfl
        ·
          refine sw_case (c := 4) (fun q9 => ?_) (fun q9 => ?_)
          ·
            refine (g_tableIn (off := 79) (tgt := 80) d112_1 (by rw [iI_toInt (by omega)]; omega) (by rw [iI_toInt (by omega), q9]; rfl) (by decide)).trans ?_
            refine (g_aload_n d112_80 rfl rfl).trans ?_
            refine (g_getR (q := 7) d112_81 f9_58 sh_0 (by decide) rfl).trans ?_
            refine (j_getI (v := ρ 7 0) d112_84 f9_193 sh_7 (by decide) rfl rfl).trans ?_
            have q10 : 0 ≤ ρ 7 0 ∧ ρ 7 0 ≤ 12 := hT.2 7 0
            exact g_iret d112_87 rfl rfl
          ·
            refine sw_case (c := 5) (fun q11 => ?_) (fun q11 => ?_)
            ·
              refine (g_tableIn (off := 87) (tgt := 88) d112_1 (by rw [iI_toInt (by omega)]; omega) (by rw [iI_toInt (by omega), q11]; rfl) (by decide)).trans ?_
              refine (g_aload_n d112_88 rfl rfl).trans ?_
              refine (g_getR (q := 8) d112_89 f9_65 sh_0 (by decide) rfl).trans ?_
              refine (j_getI (v := ρ 8 0) d112_92 f9_251 sh_8 (by decide) rfl rfl).trans ?_
              have q12 : 0 ≤ ρ 8 0 ∧ ρ 8 0 ≤ 10 := hT.2 8 0
              exact g_iret d112_95 rfl rfl
            ·
              refine sw_case (c := 6) (fun q13 => ?_) (fun q13 => ?_)
              ·
                refine (g_tableIn (off := 95) (tgt := 96) d112_1 (by rw [iI_toInt (by omega)]; omega) (by rw [iI_toInt (by omega), q13]; rfl) (by decide)).trans ?_
                refine (g_aload_n d112_96 rfl rfl).trans ?_
                refine (g_getR (q := 9) d112_97 f9_72 sh_0 (by decide) rfl).trans ?_
                refine (j_getI (v := ρ 9 0) d112_100 f9_252 sh_9 (by decide) rfl rfl).trans ?_
                have q14 : 0 ≤ ρ 9 0 ∧ ρ 9 0 ≤ 12 := hT.2 9 0
                exact g_iret d112_103 rfl rfl
              ·
                refine sw_case (c := 7) (fun q15 => ?_) (fun q15 => ?_)
                ·
                  refine (g_tableIn (off := 103) (tgt := 104) d112_1 (by rw [iI_toInt (by omega)]; omega) (by rw [iI_toInt (by omega), q15]; rfl) (by decide)).trans ?_
                  refine (g_aload_n d112_104 rfl rfl).trans ?_
                  refine (g_getR (q := 4) d112_105 f9_35 sh_0 (by decide) rfl).trans ?_
                  refine (j_getI (v := ρ 4 1) d112_108 f9_253 sh_4 (by decide) rfl rfl).trans ?_
                  have q16 : 0 ≤ ρ 4 1 ∧ ρ 4 1 ≤ 200 := hT.2 4 1
                  exact g_iret d112_111 rfl rfl
                ·
                  refine (g_tableOut (tgt := 112) d112_1 (by rw [iI_toInt (by omega)]; omega) (by decide)).trans ?_
                  refine (j_bipush d112_112 (by decide)).trans ?_
                  exact g_iret d112_114 rfl rfl
set_option maxRecDepth 10000 in
theorem s124 {Q : Option Value → mm → Prop} (ρ : rm) (τ : Int64)  (hT : TI ρ)  : G 124 0 (some (.ref 51) :: []) [] (toM ρ τ) Q = Q (some (vI (ρ 51 10))) (toM (rup ρ 51 10 0) τ) := by
  refine (g_aload_n d124_0 rfl rfl).trans ?_
  refine (j_getI (v := ρ 51 10) d124_1 f10_83 sh_51 (by decide) rfl rfl).trans ?_
  have q1 : 0 ≤ ρ 51 10 ∧ ρ 51 10 ≤ 200 := hT.2 51 10
  refine (g_istore_n d124_4 (by decide) rfl rfl).trans ?_
  refine (g_aload_n d124_5 rfl rfl).trans ?_
  refine (j_iconst d124_6).trans ?_
  refine (j_putI d124_7 f10_83 sh_51 (by decide) rfl).trans ?_
  refine (g_iload_n d124_10 rfl).trans ?_
  exact g_iret d124_11 rfl rfl
set_option maxRecDepth 10000 in
theorem s138 {Q : Option Value → mm → Prop} (ρ : rm) (τ : Int64) (a1 : Int) (hT : TI ρ) (h_a1 : SB a1) : G 138 0 (some (.ref 51) :: some (vI a1) :: []) [] (toM ρ τ) Q = (if 0 ≤ a1 ∧ a1 ≤ ρ 51 0 - 1 then Q (some (vI (oS ρ a1))) (toM ρ τ) else Q (some (vI (-2))) (toM ρ τ)) := by
  refine (g_aload_n d138_0 rfl rfl).trans ?_
  refine (g_iload_n d138_1 rfl).trans ?_
  refine (g_cV d138_2 k10_196 rfl rfl rfl).trans ?_
  show G 119 0 [some (.ref 51), some (vI a1)] [] (toM ρ τ) _ = _
  refine (m_isHouse hT.1 (by omega)).trans ?_
  show G 138 5 (some (.ref 51) :: some (vI a1) :: []) [vI (tv (0 ≤ a1 ∧ a1 ≤ ρ 51 0 - 1))] (toM ρ τ) _ = _
  have q1 := (show 2 ≤ ρ 51 0 ∧ ρ 51 0 ≤ 10 from hT.2 51 0)
  refine j_ifT_eq (tgt := 16) d138_5 (by decide) (fun q2 => ?_) (fun q2 => ?_)
  ·
    refine (g_aload_n d138_8 rfl rfl).trans ?_
    refine (g_iload_n d138_9 rfl).trans ?_
    refine (g_cV d138_10 k10_199 rfl rfl rfl).trans ?_
    show G 137 0 [some (.ref 51), some (vI a1)] [] (toM ρ τ) _ = _
    refine (m_offOf hT.1 (by omega)).trans ?_
    show G 138 13 (some (.ref 51) :: some (vI a1) :: []) [vI (oS ρ a1)] (toM ρ τ) _ = _
    have q3 := oS_rg hT (h := a1) (by omega)
    refine (g_goto (tgt := 18) d138_13 (by decide)).trans ?_
    exact g_iret d138_18 rfl rfl
  ·
    refine (j_bipush d138_16 (by decide)).trans ?_
    exact g_iret d138_18 rfl rfl
set_option maxRecDepth 10000 in
theorem s139 {Q : Option Value → mm → Prop} (ρ : rm) (τ : Int64) (a1 : Int) (a2 : Int) (hT : TI ρ) (h_a1 : SB a1) (h_a2 : SB a2) : G 139 0 (some (.ref 51) :: some (vI a1) :: some (vI a2) :: []) [] (toM ρ τ) Q = (if 0 ≤ a1 ∧ a1 ≤ ρ 51 0 - 1 then (if 0 ≤ a2 ∧ a2 ≤ ρ 51 0 - 1 then Q (some (vI (ρ 57 ((10 * a1) + a2)))) (toM ρ τ) else Q (some (vI (-2))) (toM ρ τ)) else Q (some (vI (-2))) (toM ρ τ)) := by
  refine (g_aload_n d139_0 rfl rfl).trans ?_
  refine (g_iload_n d139_1 rfl).trans ?_
  refine (g_cV d139_2 k10_196 rfl rfl rfl).trans ?_
  show G 119 0 [some (.ref 51), some (vI a1)] [] (toM ρ τ) _ = _
  refine (m_isHouse hT.1 (by omega)).trans ?_
  show G 139 5 (some (.ref 51) :: some (vI a1) :: some (vI a2) :: []) [vI (tv (0 ≤ a1 ∧ a1 ≤ ρ 51 0 - 1))] (toM ρ τ) _ = _
  have q1 := (show 2 ≤ ρ 51 0 ∧ ρ 51 0 ≤ 10 from hT.2 51 0)
  refine j_ifT_eq (tgt := 30) d139_5 (by decide) (fun q2 => ?_) (fun q2 => ?_)
  ·
    refine (g_aload_n d139_8 rfl rfl).trans ?_
    refine (g_iload_n d139_9 rfl).trans ?_
    refine (g_cV d139_10 k10_196 rfl rfl rfl).trans ?_
    show G 119 0 [some (.ref 51), some (vI a2)] [] (toM ρ τ) _ = _
    refine (m_isHouse hT.1 (by omega)).trans ?_
    show G 139 13 (some (.ref 51) :: some (vI a1) :: some (vI a2) :: []) [vI (tv (0 ≤ a2 ∧ a2 ≤ ρ 51 0 - 1))] (toM ρ τ) _ = _
    have q3 := (show 2 ≤ ρ 51 0 ∧ ρ 51 0 ≤ 10 from hT.2 51 0)
    refine j_ifT_eq (tgt := 30) d139_13 (by decide) (fun q4 => ?_) (fun q4 => ?_)
    ·
      refine (g_aload_n d139_16 rfl rfl).trans ?_
      refine (g_getR (q := 57) d139_17 f10_29 sh_51 (by decide) rfl).trans ?_
      refine (j_bipush d139_20 (by decide)).trans ?_
      refine (g_iload_n d139_22 rfl).trans ?_
      refine (j_imul d139_23).trans ?_
      refine (g_iload_n d139_24 rfl).trans ?_
      refine (j_iadd d139_25).trans ?_
      refine (j_ialoadB (v := ρ 57 ((10 * a1) + a2)) d139_26 sh_57 (by omega) (by decide) rfl).trans ?_
      have q5 : 0 ≤ ρ 57 ((10 * a1) + a2) ∧ ρ 57 ((10 * a1) + a2) ≤ 100000 := hT.2 57 ((10 * a1) + a2)
      refine (g_goto (tgt := 32) d139_27 (by decide)).trans ?_
      exact g_iret d139_32 rfl rfl
    ·
      refine (j_bipush d139_30 (by decide)).trans ?_
      exact g_iret d139_32 rfl rfl
  ·
    refine (j_bipush d139_30 (by decide)).trans ?_
    exact g_iret d139_32 rfl rfl
set_option maxRecDepth 10000 in
theorem s142 {Q : Option Value → mm → Prop} (ρ : rm) (τ : Int64) (a1 : Int) (a2 : Int) (a3 : Int) (hT : TI ρ) (h_a1 : SB a1) (h_a2 : SB a2) (h_a3 : SB a3) : G 142 0 (some (.ref 51) :: some (vI a1) :: some (vI a2) :: some (vI a3) :: []) [] (toM ρ τ) Q = (if 0 ≤ a1 ∧ a1 ≤ ρ 51 0 - 1 then (if 0 ≤ a2 ∧ a2 ≤ 99999 then (if a3 = 0 then Q (some (vI (Int.tmod ((a2 - (oS ρ a1)) + 144000) 1440))) (toM ρ τ) else (if a3 = 1 then Q (some (vI (Int.tdiv ((a2 - (oS ρ a1)) + 144000) 1440))) (toM ρ τ) else Q (some (vI (-3))) (toM ρ τ))) else Q (some (vI (-3))) (toM ρ τ)) else Q (some (vI (-2))) (toM ρ τ)) := by
  refine (g_aload_n d142_0 rfl rfl).trans ?_
  refine (g_iload_n d142_1 rfl).trans ?_
  refine (g_cV d142_2 k10_196 rfl rfl rfl).trans ?_
  show G 119 0 [some (.ref 51), some (vI a1)] [] (toM ρ τ) _ = _
  refine (m_isHouse hT.1 (by omega)).trans ?_
  show G 142 5 (some (.ref 51) :: some (vI a1) :: some (vI a2) :: some (vI a3) :: []) [vI (tv (0 ≤ a1 ∧ a1 ≤ ρ 51 0 - 1))] (toM ρ τ) _ = _
  have q1 := (show 2 ≤ ρ 51 0 ∧ ρ 51 0 ≤ 10 from hT.2 51 0)
  refine j_ifT_ne (tgt := 11) d142_5 (by decide) (fun q2 => ?_) (fun q2 => ?_)
  ·
    refine (g_iload_n d142_11 rfl).trans ?_
    refine (j_iconst d142_12).trans ?_
    refine (j_ldc (n := 99999) d142_13 cs10_204 (by decide)).trans ?_
    refine (g_cS d142_15 k10_69 rfl rfl rfl).trans ?_
    show G 117 0 [some (vI a2), some (vI 0), some (vI 99999)] [] (toM ρ τ) _ = _
    refine (m_in hT.1 (by omega) (by omega) (by omega)).trans ?_
    show G 142 18 (some (.ref 51) :: some (vI a1) :: some (vI a2) :: some (vI a3) :: []) [vI (tv (0 ≤ a2 ∧ a2 ≤ 99999))] (toM ρ τ) _ = _
    refine j_ifT_ne (tgt := 24) d142_18 (by decide) (fun q3 => ?_) (fun q3 => ?_)
    ·
      refine (g_iload_n d142_24 rfl).trans ?_
      refine j_if_ne (tgt := 37) d142_25 (by decide) (by omega) (fun q4 => ?_) (fun q4 => ?_)
      ·
        refine (g_aload_n d142_28 rfl rfl).trans ?_
        refine (g_iload_n d142_29 rfl).trans ?_
        refine (g_iload_n d142_30 rfl).trans ?_
        refine (g_cV d142_31 k10_205 rfl rfl rfl).trans ?_
        show G 141 0 [some (.ref 51), some (vI a1), some (vI a2)] [] (toM ρ τ) _ = _
        refine (s141 _ _ _ _ hT (by omega) (by omega)).trans ?_
        show G 142 34 (some (.ref 51) :: some (vI a1) :: some (vI a2) :: some (vI a3) :: []) [vI (Int.tmod ((a2 - (oS ρ a1)) + 144000) 1440)] (toM ρ τ) _ = _
        have q5 := tmod_bd ((a2 - (oS ρ a1)) + 144000) (b := 1440) (by omega)
        refine (g_goto (tgt := 53) d142_34 (by decide)).trans ?_
        exact g_iret d142_53 rfl rfl
      ·
        refine (g_iload_n d142_37 rfl).trans ?_
        refine (j_iconst d142_38).trans ?_
        refine j_icmp_ne (tgt := 51) d142_39 (by decide) (by omega) (by omega) (fun q6 => ?_) (fun q6 => ?_)
        ·
          refine (g_aload_n d142_42 rfl rfl).trans ?_
          refine (g_iload_n d142_43 rfl).trans ?_
          refine (g_iload_n d142_44 rfl).trans ?_
          refine (g_cV d142_45 k10_209 rfl rfl rfl).trans ?_
          show G 140 0 [some (.ref 51), some (vI a1), some (vI a2)] [] (toM ρ τ) _ = _
          refine (s140 _ _ _ _ hT (by omega) (by omega)).trans ?_
          show G 142 48 (some (.ref 51) :: some (vI a1) :: some (vI a2) :: some (vI a3) :: []) [vI (Int.tdiv ((a2 - (oS ρ a1)) + 144000) 1440)] (toM ρ τ) _ = _
          have q7 := tdiv_bd ((a2 - (oS ρ a1)) + 144000) (b := 1440) (by omega)
          refine (g_goto (tgt := 53) d142_48 (by decide)).trans ?_
          exact g_iret d142_53 rfl rfl
        ·
          refine (j_bipush d142_51 (by decide)).trans ?_
          exact g_iret d142_53 rfl rfl
    ·
      refine (j_bipush d142_21 (by decide)).trans ?_
      exact g_iret d142_23 rfl rfl
  ·
    refine (j_bipush d142_8 (by decide)).trans ?_
    exact g_iret d142_10 rfl rfl
set_option maxRecDepth 10000 in
theorem s144 {Q : Option Value → mm → Prop} (ρ : rm) (τ : Int64) (a1 : Int) (a2 : Int) (hT : TI ρ) (h_a1 : SB a1) (h_a2 : SB a2) : G 144 0 (some (.ref 51) :: some (vI a1) :: some (vI a2) :: []) [] (toM ρ τ) Q = (if 0 ≤ a1 ∧ a1 ≤ ρ 51 0 - 1 then (if 0 ≤ a2 ∧ a2 ≤ ρ 51 0 - 1 then Q (some (vI ((((ρ 57 ((10 * a1) + a2)) - (oS ρ a2)) + (oS ρ a1)) + 100000))) (toM ρ τ) else Q (some (vI (-2))) (toM ρ τ)) else Q (some (vI (-2))) (toM ρ τ)) := by
  refine (g_aload_n d144_0 rfl rfl).trans ?_
  refine (g_iload_n d144_1 rfl).trans ?_
  refine (g_cV d144_2 k10_196 rfl rfl rfl).trans ?_
  show G 119 0 [some (.ref 51), some (vI a1)] [] (toM ρ τ) _ = _
  refine (m_isHouse hT.1 (by omega)).trans ?_
  show G 144 5 (some (.ref 51) :: some (vI a1) :: some (vI a2) :: []) [vI (tv (0 ≤ a1 ∧ a1 ≤ ρ 51 0 - 1))] (toM ρ τ) _ = _
  have q1 := (show 2 ≤ ρ 51 0 ∧ ρ 51 0 ≤ 10 from hT.2 51 0)
  refine j_ifT_eq (tgt := 28) d144_5 (by decide) (fun q2 => ?_) (fun q2 => ?_)
  ·
    refine (g_aload_n d144_8 rfl rfl).trans ?_
    refine (g_iload_n d144_9 rfl).trans ?_
    refine (g_cV d144_10 k10_196 rfl rfl rfl).trans ?_
    show G 119 0 [some (.ref 51), some (vI a2)] [] (toM ρ τ) _ = _
    refine (m_isHouse hT.1 (by omega)).trans ?_
    show G 144 13 (some (.ref 51) :: some (vI a1) :: some (vI a2) :: []) [vI (tv (0 ≤ a2 ∧ a2 ≤ ρ 51 0 - 1))] (toM ρ τ) _ = _
    have q3 := (show 2 ≤ ρ 51 0 ∧ ρ 51 0 ≤ 10 from hT.2 51 0)
    refine j_ifT_eq (tgt := 28) d144_13 (by decide) (fun q4 => ?_) (fun q4 => ?_)
    ·
      refine (g_aload_n d144_16 rfl rfl).trans ?_
      refine (g_iload_n d144_17 rfl).trans ?_
      refine (g_iload_n d144_18 rfl).trans ?_
      refine (g_cV d144_19 k10_212 rfl rfl rfl).trans ?_
      show G 143 0 [some (.ref 51), some (vI a1), some (vI a2)] [] (toM ρ τ) _ = _
      refine (s143 _ _ _ _ hT (by omega) (by omega)).trans ?_
      show G 144 22 (some (.ref 51) :: some (vI a1) :: some (vI a2) :: []) [vI (((ρ 57 ((10 * a1) + a2)) - (oS ρ a2)) + (oS ρ a1))] (toM ρ τ) _ = _
      have q5 := back_bd hT (a := a1) (b := a2) (by omega)
      refine (j_ldc (n := 100000) d144_22 cs10_82 (by decide)).trans ?_
      refine (j_iadd d144_24).trans ?_
      refine (g_goto (tgt := 30) d144_25 (by decide)).trans ?_
      exact g_iret d144_30 rfl rfl
    ·
      refine (j_bipush d144_28 (by decide)).trans ?_
      exact g_iret d144_30 rfl rfl
  ·
    refine (j_bipush d144_28 (by decide)).trans ?_
    exact g_iret d144_30 rfl rfl
set_option maxRecDepth 10000 in
theorem s147 {Q : Option Value → mm → Prop} (ρ : rm) (τ : Int64) (a1 : Int) (a2 : Int) (hT : TI ρ) (h_a1 : SB a1) (h_a2 : SB a2) : G 147 0 (some (.ref 51) :: some (vI a1) :: some (vI a2) :: []) [] (toM ρ τ) Q = (if 0 ≤ a1 ∧ a1 ≤ ρ 51 5 - 1 then (if 0 ≤ a2 ∧ a2 ≤ 2 then Q (some (vI (ρ 55 ((3 * a1) + a2)))) (toM ρ τ) else (if a2 = 3 then Q (some (vI ((ρ 55 ((3 * a1) + 1)) + (oS ρ (ρ 55 (3 * a1)))))) (toM ρ τ) else Q (some (vI (-3))) (toM ρ τ))) else Q (some (vI (-2))) (toM ρ τ)) := by
  refine (g_aload_n d147_0 rfl rfl).trans ?_
  refine (g_iload_n d147_1 rfl).trans ?_
  refine (g_cV d147_2 k10_215 rfl rfl rfl).trans ?_
  show G 120 0 [some (.ref 51), some (vI a1)] [] (toM ρ τ) _ = _
  refine (m_isDeed hT.1 (by omega)).trans ?_
  show G 147 5 (some (.ref 51) :: some (vI a1) :: some (vI a2) :: []) [vI (tv (0 ≤ a1 ∧ a1 ≤ ρ 51 5 - 1))] (toM ρ τ) _ = _
  have q1 := (show 0 ≤ ρ 51 5 ∧ ρ 51 5 ≤ 10 from hT.2 51 5)
  refine j_ifT_ne (tgt := 11) d147_5 (by decide) (fun q2 => ?_) (fun q2 => ?_)
  ·
    refine (g_iload_n d147_11 rfl).trans ?_
    refine (j_iconst d147_12).trans ?_
    refine (j_iconst d147_13).trans ?_
    refine (g_cS d147_14 k10_69 rfl rfl rfl).trans ?_
    show G 117 0 [some (vI a2), some (vI 0), some (vI 2)] [] (toM ρ τ) _ = _
    refine (m_in hT.1 (by omega) (by omega) (by omega)).trans ?_
    show G 147 17 (some (.ref 51) :: some (vI a1) :: some (vI a2) :: []) [vI (tv (0 ≤ a2 ∧ a2 ≤ 2))] (toM ρ τ) _ = _
    refine j_ifT_eq (tgt := 33) d147_17 (by decide) (fun q3 => ?_) (fun q3 => ?_)
    ·
      refine (g_aload_n d147_20 rfl rfl).trans ?_
      refine (g_getR (q := 55) d147_21 f10_23 sh_51 (by decide) rfl).trans ?_
      refine (j_iconst d147_24).trans ?_
      refine (g_iload_n d147_25 rfl).trans ?_
      refine (j_imul d147_26).trans ?_
      refine (g_iload_n d147_27 rfl).trans ?_
      refine (j_iadd d147_28).trans ?_
      refine (j_ialoadB (v := ρ 55 ((3 * a1) + a2)) d147_29 sh_55 (by omega) (by decide) rfl).trans ?_
      have q4 := hT.1 55 ((3 * a1) + a2) (by decide)
      refine (g_goto (tgt := 48) d147_30 (by decide)).trans ?_
      exact g_iret d147_48 rfl rfl
    ·
      refine (g_iload_n d147_33 rfl).trans ?_
      refine (j_iconst d147_34).trans ?_
      refine j_icmp_ne (tgt := 46) d147_35 (by decide) (by omega) (by omega) (fun q5 => ?_) (fun q5 => ?_)
      ·
        refine (g_aload_n d147_38 rfl rfl).trans ?_
        refine (g_iload_n d147_39 rfl).trans ?_
        refine (g_cV d147_40 k10_218 rfl rfl rfl).trans ?_
        show G 146 0 (some (.ref 51) :: some (vI a1) :: []) [] (toM ρ τ) _ = _
        refine (g_aload_n d146_0 rfl rfl).trans ?_
        refine (g_getR (q := 55) d146_1 f10_23 sh_51 (by decide) rfl).trans ?_
        refine (j_iconst d146_4).trans ?_
        refine (g_iload_n d146_5 rfl).trans ?_
        refine (j_imul d146_6).trans ?_
        refine (j_iconst d146_7).trans ?_
        refine (j_iadd d146_8).trans ?_
        refine (j_ialoadB (v := ρ 55 ((3 * a1) + 1)) d146_9 sh_55 (by omega) (by decide) rfl).trans ?_
        have q6 := hT.1 55 ((3 * a1) + 1) (by decide)
        refine (g_aload_n d146_10 rfl rfl).trans ?_
        refine (g_aload_n d146_11 rfl rfl).trans ?_
        refine (g_getR (q := 55) d146_12 f10_23 sh_51 (by decide) rfl).trans ?_
        refine (j_iconst d146_15).trans ?_
        refine (g_iload_n d146_16 rfl).trans ?_
        refine (j_imul d146_17).trans ?_
        refine (j_ialoadB (v := ρ 55 (3 * a1)) d146_18 sh_55 (by omega) (by decide) rfl).trans ?_
        have q7 := T55a hT a1
        refine (g_cV d146_19 k10_199 rfl rfl rfl).trans ?_
        show G 137 0 [some (.ref 51), some (vI (ρ 55 (3 * a1)))] [] (toM ρ τ) _ = _
        refine (m_offOf hT.1 (by omega)).trans ?_
        show G 146 22 (some (.ref 51) :: some (vI a1) :: []) [vI (oS ρ (ρ 55 (3 * a1))), vI (ρ 55 ((3 * a1) + 1))] (toM ρ τ) _ = _
        have q8 := oS_rg hT (h := ρ 55 (3 * a1)) (by omega)
        refine (j_iadd d146_22).trans ?_
        refine (g_iret d146_23 rfl rfl).trans ?_
        show G 147 43 (some (.ref 51) :: some (vI a1) :: some (vI a2) :: []) [vI ((ρ 55 ((3 * a1) + 1)) + (oS ρ (ρ 55 (3 * a1))))] (toM ρ τ) _ = _
        refine (g_goto (tgt := 48) d147_43 (by decide)).trans ?_
        exact g_iret d147_48 rfl rfl
      ·
        refine (j_bipush d147_46 (by decide)).trans ?_
        exact g_iret d147_48 rfl rfl
  ·
    refine (j_bipush d147_8 (by decide)).trans ?_
    exact g_iret d147_10 rfl rfl
set_option maxRecDepth 10000 in
theorem s148 {Q : Option Value → mm → Prop} (ρ : rm) (τ : Int64) (a1 : Int) (hT : TI ρ) (h_a1 : SB a1) : G 148 0 (some (.ref 51) :: some (vI a1) :: []) [] (toM ρ τ) Q = (if 0 ≤ a1 ∧ a1 ≤ ρ 51 0 - 1 then (if a1 = (ρ 51 24) then Q (some (vI (-4))) (toM ρ τ) else (if ((ρ 51 25) + (ρ 57 ((10 * (ρ 51 24)) + a1))) ≤ 99999 then Q (some (vI ((ρ 51 25) + (ρ 57 ((10 * (ρ 51 24)) + a1))))) (toM (rup (rup ρ 51 25 ((ρ 51 25) + (ρ 57 ((10 * (ρ 51 24)) + a1)))) 51 24 a1) τ) else Q (some (vI (-5))) (toM ρ τ))) else Q (some (vI (-2))) (toM ρ τ)) := by
  refine (g_aload_n d148_0 rfl rfl).trans ?_
  refine (g_iload_n d148_1 rfl).trans ?_
  refine (g_cV d148_2 k10_196 rfl rfl rfl).trans ?_
  show G 119 0 [some (.ref 51), some (vI a1)] [] (toM ρ τ) _ = _
  refine (m_isHouse hT.1 (by omega)).trans ?_
  show G 148 5 (some (.ref 51) :: some (vI a1) :: []) [vI (tv (0 ≤ a1 ∧ a1 ≤ ρ 51 0 - 1))] (toM ρ τ) _ = _
  have q1 := (show 2 ≤ ρ 51 0 ∧ ρ 51 0 ≤ 10 from hT.2 51 0)
  refine j_ifT_ne (tgt := 11) d148_5 (by decide) (fun q2 => ?_) (fun q2 => ?_)
  ·
    refine (g_iload_n d148_11 rfl).trans ?_
    refine (g_aload_n d148_12 rfl rfl).trans ?_
    refine (j_getI (v := ρ 51 24) d148_13 f10_181 sh_51 (by decide) rfl rfl).trans ?_
    have q3 : 0 ≤ ρ 51 24 ∧ ρ 51 24 ≤ 9 := hT.2 51 24
    refine j_icmp_ne (tgt := 22) d148_16 (by decide) (by omega) (by omega) (fun q4 => ?_) (fun q4 => ?_)
    ·
      refine (j_bipush d148_19 (by decide)).trans ?_
      exact g_iret d148_21 rfl rfl
    ·
      refine (g_aload_n d148_22 rfl rfl).trans ?_
      refine (j_getI (v := ρ 51 25) d148_23 f10_184 sh_51 (by decide) rfl rfl).trans ?_
      have q5 : 0 ≤ ρ 51 25 ∧ ρ 51 25 ≤ 99999 := hT.2 51 25
      refine (g_aload_n d148_26 rfl rfl).trans ?_
      refine (g_getR (q := 57) d148_27 f10_29 sh_51 (by decide) rfl).trans ?_
      refine (j_bipush d148_30 (by decide)).trans ?_
      refine (g_aload_n d148_32 rfl rfl).trans ?_
      refine (j_getI (v := ρ 51 24) d148_33 f10_181 sh_51 (by decide) rfl rfl).trans ?_
      refine (j_imul d148_36).trans ?_
      refine (g_iload_n d148_37 rfl).trans ?_
      refine (j_iadd d148_38).trans ?_
      refine (j_ialoadB (v := ρ 57 ((10 * (ρ 51 24)) + a1)) d148_39 sh_57 (by omega) (by decide) rfl).trans ?_
      have q6 : 0 ≤ ρ 57 ((10 * (ρ 51 24)) + a1) ∧ ρ 57 ((10 * (ρ 51 24)) + a1) ≤ 100000 := hT.2 57 ((10 * (ρ 51 24)) + a1)
      refine (j_iadd d148_40).trans ?_
      refine (j_ldc (n := 99999) d148_41 cs10_204 (by decide)).trans ?_
      refine j_icmp_le (tgt := 49) d148_43 (by decide) (by omega) (by omega) (fun q7 => ?_) (fun q7 => ?_)
      ·
        refine (g_aload_n d148_49 rfl rfl).trans ?_
        refine (g_dupR d148_50).trans ?_
        refine (j_getI (v := ρ 51 25) d148_51 f10_184 sh_51 (by decide) rfl rfl).trans ?_
        refine (g_aload_n d148_54 rfl rfl).trans ?_
        refine (g_getR (q := 57) d148_55 f10_29 sh_51 (by decide) rfl).trans ?_
        refine (j_bipush d148_58 (by decide)).trans ?_
        refine (g_aload_n d148_60 rfl rfl).trans ?_
        refine (j_getI (v := ρ 51 24) d148_61 f10_181 sh_51 (by decide) rfl rfl).trans ?_
        refine (j_imul d148_64).trans ?_
        refine (g_iload_n d148_65 rfl).trans ?_
        refine (j_iadd d148_66).trans ?_
        refine (j_ialoadB (v := ρ 57 ((10 * (ρ 51 24)) + a1)) d148_67 sh_57 (by omega) (by decide) rfl).trans ?_
        refine (j_iadd d148_68).trans ?_
        refine (j_putI d148_69 f10_184 sh_51 (by decide) rfl).trans ?_
        refine (g_aload_n d148_72 rfl rfl).trans ?_
        refine (g_iload_n d148_73 rfl).trans ?_
        refine (j_putI d148_74 f10_181 sh_51 (by decide) rfl).trans ?_
        refine (g_aload_n d148_77 rfl rfl).trans ?_
        refine (j_getI (v := (ρ 51 25) + (ρ 57 ((10 * (ρ 51 24)) + a1))) d148_78 f10_184 sh_51 (by decide) rfl (by simp [rup])).trans ?_
        exact g_iret d148_81 rfl rfl
      ·
        refine (j_bipush d148_46 (by decide)).trans ?_
        exact g_iret d148_48 rfl rfl
  ·
    refine (j_bipush d148_8 (by decide)).trans ?_
    exact g_iret d148_10 rfl rfl
set_option maxRecDepth 10000 in
theorem s149 {Q : Option Value → mm → Prop} (ρ : rm) (τ : Int64) (a1 : Int) (hT : TI ρ) (h_a1 : SB a1) : G 149 0 (some (.ref 51) :: some (vI a1) :: []) [] (toM ρ τ) Q = (if 1 ≤ a1 ∧ a1 ≤ 9999 then (if ((ρ 51 25) + a1) ≤ 99999 then Q (some (vI ((ρ 51 25) + a1))) (toM (rup ρ 51 25 ((ρ 51 25) + a1)) τ) else Q (some (vI (-5))) (toM ρ τ)) else Q (some (vI (-3))) (toM ρ τ)) := by
  refine (g_iload_n d149_0 rfl).trans ?_
  refine (j_iconst d149_1).trans ?_
  refine (j_sipush d149_2 (by decide)).trans ?_
  refine (g_cS d149_5 k10_69 rfl rfl rfl).trans ?_
  show G 117 0 [some (vI a1), some (vI 1), some (vI 9999)] [] (toM ρ τ) _ = _
  refine (m_in hT.1 (by omega) (by omega) (by omega)).trans ?_
  show G 149 8 (some (.ref 51) :: some (vI a1) :: []) [vI (tv (1 ≤ a1 ∧ a1 ≤ 9999))] (toM ρ τ) _ = _
  refine j_ifT_ne (tgt := 14) d149_8 (by decide) (fun q1 => ?_) (fun q1 => ?_)
  ·
    refine (g_aload_n d149_14 rfl rfl).trans ?_
    refine (j_getI (v := ρ 51 25) d149_15 f10_184 sh_51 (by decide) rfl rfl).trans ?_
    have q2 : 0 ≤ ρ 51 25 ∧ ρ 51 25 ≤ 99999 := hT.2 51 25
    refine (g_iload_n d149_18 rfl).trans ?_
    refine (j_iadd d149_19).trans ?_
    refine (j_ldc (n := 99999) d149_20 cs10_204 (by decide)).trans ?_
    refine j_icmp_le (tgt := 28) d149_22 (by decide) (by omega) (by omega) (fun q3 => ?_) (fun q3 => ?_)
    ·
      refine (g_aload_n d149_28 rfl rfl).trans ?_
      refine (g_dupR d149_29).trans ?_
      refine (j_getI (v := ρ 51 25) d149_30 f10_184 sh_51 (by decide) rfl rfl).trans ?_
      refine (g_iload_n d149_33 rfl).trans ?_
      refine (j_iadd d149_34).trans ?_
      refine (j_putI d149_35 f10_184 sh_51 (by decide) rfl).trans ?_
      refine (g_aload_n d149_38 rfl rfl).trans ?_
      refine (j_getI (v := (ρ 51 25) + a1) d149_39 f10_184 sh_51 (by decide) rfl (by simp [rup])).trans ?_
      exact g_iret d149_42 rfl rfl
    ·
      refine (j_bipush d149_25 (by decide)).trans ?_
      exact g_iret d149_27 rfl rfl
  ·
    refine (j_bipush d149_11 (by decide)).trans ?_
    exact g_iret d149_13 rfl rfl
set_option maxRecDepth 10000 in
theorem s150 {Q : Option Value → mm → Prop} (ρ : rm) (τ : Int64) (a1 : Int) (hT : TI ρ) (h_a1 : SB a1) : G 150 0 (some (.ref 51) :: some (vI a1) :: []) [] (toM ρ τ) Q = (if a1 = 0 then Q (some (vI (ρ 51 24))) (toM ρ τ) else (if a1 = 1 then Q (some (vI (ρ 51 25))) (toM ρ τ) else (if a1 = 2 then Q (some (vI (Int.tmod (((ρ 51 25) - (oS ρ (ρ 51 24))) + 144000) 1440))) (toM ρ τ) else (if a1 = 3 then Q (some (vI (Int.tdiv (((ρ 51 25) - (oS ρ (ρ 51 24))) + 144000) 1440))) (toM ρ τ) else Q (some (vI (-3))) (toM ρ τ))))) := by
  refine (g_iload_n d150_0 rfl).trans ?_
  refine sw_case (c := 0) (fun q1 => ?_) (fun q1 => ?_)
  ·
    refine (g_tableIn (off := 31) (tgt := 32) d150_1 (by rw [iI_toInt (by omega)]; omega) (by rw [iI_toInt (by omega), q1]; rfl) (by decide)).trans ?_
    refine (g_aload_n d150_32 rfl rfl).trans ?_
    refine (j_getI (v := ρ 51 24) d150_33 f10_181 sh_51 (by decide) rfl rfl).trans ?_
    have q2 : 0 ≤ ρ 51 24 ∧ ρ 51 24 ≤ 9 := hT.2 51 24
    exact g_iret d150_36 rfl rfl
  ·
    refine sw_case (c := 1) (fun q3 => ?_) (fun q3 => ?_)
    ·
      refine (g_tableIn (off := 36) (tgt := 37) d150_1 (by rw [iI_toInt (by omega)]; omega) (by rw [iI_toInt (by omega), q3]; rfl) (by decide)).trans ?_
      refine (g_aload_n d150_37 rfl rfl).trans ?_
      refine (j_getI (v := ρ 51 25) d150_38 f10_184 sh_51 (by decide) rfl rfl).trans ?_
      have q4 : 0 ≤ ρ 51 25 ∧ ρ 51 25 ≤ 99999 := hT.2 51 25
      exact g_iret d150_41 rfl rfl
    ·
      refine sw_case (c := 2) (fun q5 => ?_) (fun q5 => ?_)
      ·
        refine (g_tableIn (off := 41) (tgt := 42) d150_1 (by rw [iI_toInt (by omega)]; omega) (by rw [iI_toInt (by omega), q5]; rfl) (by decide)).trans ?_
        refine (g_aload_n d150_42 rfl rfl).trans ?_
        refine (g_aload_n d150_43 rfl rfl).trans ?_
        refine (j_getI (v := ρ 51 24) d150_44 f10_181 sh_51 (by decide) rfl rfl).trans ?_
        have q6 : 0 ≤ ρ 51 24 ∧ ρ 51 24 ≤ 9 := hT.2 51 24
        refine (g_aload_n d150_47 rfl rfl).trans ?_
        refine (j_getI (v := ρ 51 25) d150_48 f10_184 sh_51 (by decide) rfl rfl).trans ?_
        have q7 : 0 ≤ ρ 51 25 ∧ ρ 51 25 ≤ 99999 := hT.2 51 25
        refine (g_cV d150_51 k10_205 rfl rfl rfl).trans ?_
        show G 141 0 [some (.ref 51), some (vI (ρ 51 24)), some (vI (ρ 51 25))] [] (toM ρ τ) _ = _
        refine (s141 _ _ _ _ hT (by omega) (by omega)).trans ?_
        show G 150 54 (some (.ref 51) :: some (vI a1) :: []) [vI (Int.tmod (((ρ 51 25) - (oS ρ (ρ 51 24))) + 144000) 1440)] (toM ρ τ) _ = _
        have q8 := tmod_bd (((ρ 51 25) - (oS ρ (ρ 51 24))) + 144000) (b := 1440) (by omega)
        exact g_iret d150_54 rfl rfl
      ·
        refine sw_case (c := 3) (fun q9 => ?_) (fun q9 => ?_)
        ·
          refine (g_tableIn (off := 54) (tgt := 55) d150_1 (by rw [iI_toInt (by omega)]; omega) (by rw [iI_toInt (by omega), q9]; rfl) (by decide)).trans ?_
          refine (g_aload_n d150_55 rfl rfl).trans ?_
          refine (g_aload_n d150_56 rfl rfl).trans ?_
          refine (j_getI (v := ρ 51 24) d150_57 f10_181 sh_51 (by decide) rfl rfl).trans ?_
          have q10 : 0 ≤ ρ 51 24 ∧ ρ 51 24 ≤ 9 := hT.2 51 24
          refine (g_aload_n d150_60 rfl rfl).trans ?_
          refine (j_getI (v := ρ 51 25) d150_61 f10_184 sh_51 (by decide) rfl rfl).trans ?_
          have q11 : 0 ≤ ρ 51 25 ∧ ρ 51 25 ≤ 99999 := hT.2 51 25
          refine (g_cV d150_64 k10_209 rfl rfl rfl).trans ?_
          show G 140 0 [some (.ref 51), some (vI (ρ 51 24)), some (vI (ρ 51 25))] [] (toM ρ τ) _ = _
          refine (s140 _ _ _ _ hT (by omega) (by omega)).trans ?_
          show G 150 67 (some (.ref 51) :: some (vI a1) :: []) [vI (Int.tdiv (((ρ 51 25) - (oS ρ (ρ 51 24))) + 144000) 1440)] (toM ρ τ) _ = _
          have q12 := tdiv_bd (((ρ 51 25) - (oS ρ (ρ 51 24))) + 144000) (b := 1440) (by omega)
          exact g_iret d150_67 rfl rfl
        ·
          refine (g_tableOut (tgt := 68) d150_1 (by rw [iI_toInt (by omega)]; omega) (by decide)).trans ?_
          refine (j_bipush d150_68 (by decide)).trans ?_
          exact g_iret d150_70 rfl rfl
set_option maxRecDepth 10000 in
theorem s151 {Q : Option Value → mm → Prop} (ρ : rm) (τ : Int64) (a1 : Int) (hT : TI ρ) (h_a1 : SB a1) : G 151 0 (some (.ref 51) :: some (vI a1) :: []) [] (toM ρ τ) Q = (if 0 ≤ a1 ∧ a1 ≤ 1 then Q (some (vI (ρ 51 25))) (toM (rup (rup (rup ρ 60 (2 * a1) (ρ 51 24)) 60 ((2 * a1) + 1) (ρ 51 25)) 61 a1 1) τ) else Q (some (vI (-2))) (toM ρ τ)) := by
  refine (g_iload_n d151_0 rfl).trans ?_
  refine (j_iconst d151_1).trans ?_
  refine (j_iconst d151_2).trans ?_
  refine (g_cS d151_3 k10_69 rfl rfl rfl).trans ?_
  show G 117 0 [some (vI a1), some (vI 0), some (vI 1)] [] (toM ρ τ) _ = _
  refine (m_in hT.1 (by omega) (by omega) (by omega)).trans ?_
  show G 151 6 (some (.ref 51) :: some (vI a1) :: []) [vI (tv (0 ≤ a1 ∧ a1 ≤ 1))] (toM ρ τ) _ = _
  refine j_ifT_ne (tgt := 12) d151_6 (by decide) (fun q1 => ?_) (fun q1 => ?_)
  ·
    refine (g_aload_n d151_12 rfl rfl).trans ?_
    refine (g_getR (q := 60) d151_13 f10_38 sh_51 (by decide) rfl).trans ?_
    refine (j_iconst d151_16).trans ?_
    refine (g_iload_n d151_17 rfl).trans ?_
    refine (j_imul d151_18).trans ?_
    refine (g_aload_n d151_19 rfl rfl).trans ?_
    refine (j_getI (v := ρ 51 24) d151_20 f10_181 sh_51 (by decide) rfl rfl).trans ?_
    have q2 : 0 ≤ ρ 51 24 ∧ ρ 51 24 ≤ 9 := hT.2 51 24
    refine (j_iastoreB d151_23 sh_60 (by omega) (by decide)).trans ?_
    refine (g_aload_n d151_24 rfl rfl).trans ?_
    refine (g_getR (q := 60) d151_25 f10_38 sh_51 (by decide) rfl).trans ?_
    refine (j_iconst d151_28).trans ?_
    refine (g_iload_n d151_29 rfl).trans ?_
    refine (j_imul d151_30).trans ?_
    refine (j_iconst d151_31).trans ?_
    refine (j_iadd d151_32).trans ?_
    refine (g_aload_n d151_33 rfl rfl).trans ?_
    refine (j_getI (v := ρ 51 25) d151_34 f10_184 sh_51 (by decide) rfl (by simp [rup])).trans ?_
    have q3 : 0 ≤ ρ 51 25 ∧ ρ 51 25 ≤ 99999 := hT.2 51 25
    refine (j_iastoreB d151_37 sh_60 (by omega) (by decide)).trans ?_
    refine (g_aload_n d151_38 rfl rfl).trans ?_
    refine (g_getR (q := 61) d151_39 f10_41 sh_51 (by decide) rfl).trans ?_
    refine (g_iload_n d151_42 rfl).trans ?_
    refine (j_iconst d151_43).trans ?_
    refine (j_bastoreB d151_44 sh_61 (by omega) (by decide) rfl).trans ?_
    refine (g_aload_n d151_45 rfl rfl).trans ?_
    refine (j_getI (v := ρ 51 25) d151_46 f10_184 sh_51 (by decide) rfl (by simp [rup])).trans ?_
    exact g_iret d151_49 rfl rfl
  ·
    refine (j_bipush d151_9 (by decide)).trans ?_
    exact g_iret d151_11 rfl rfl
set_option maxRecDepth 10000 in
theorem s152 {Q : Option Value → mm → Prop} (ρ : rm) (τ : Int64) (a1 : Int) (hT : TI ρ) (h_a1 : SB a1) : G 152 0 (some (.ref 51) :: some (vI a1) :: []) [] (toM ρ τ) Q = (if 0 ≤ a1 ∧ a1 ≤ 1 then (if (ρ 61 a1) = 0 then Q (some (vI (-4))) (toM ρ τ) else Q (some (vI (ρ 60 ((2 * a1) + 1)))) (toM (rup (rup ρ 51 24 (ρ 60 (2 * a1))) 51 25 (ρ 60 ((2 * a1) + 1))) τ)) else Q (some (vI (-2))) (toM ρ τ)) := by
  refine (g_iload_n d152_0 rfl).trans ?_
  refine (j_iconst d152_1).trans ?_
  refine (j_iconst d152_2).trans ?_
  refine (g_cS d152_3 k10_69 rfl rfl rfl).trans ?_
  show G 117 0 [some (vI a1), some (vI 0), some (vI 1)] [] (toM ρ τ) _ = _
  refine (m_in hT.1 (by omega) (by omega) (by omega)).trans ?_
  show G 152 6 (some (.ref 51) :: some (vI a1) :: []) [vI (tv (0 ≤ a1 ∧ a1 ≤ 1))] (toM ρ τ) _ = _
  refine j_ifT_ne (tgt := 12) d152_6 (by decide) (fun q1 => ?_) (fun q1 => ?_)
  ·
    refine (g_aload_n d152_12 rfl rfl).trans ?_
    refine (g_getR (q := 61) d152_13 f10_41 sh_51 (by decide) rfl).trans ?_
    refine (g_iload_n d152_16 rfl).trans ?_
    refine (j_baloadB (v := ρ 61 a1) d152_17 sh_61 (by omega) (by decide) rfl).trans ?_
    have q2 : 0 ≤ ρ 61 a1 ∧ ρ 61 a1 ≤ 1 := hT.2 61 a1
    refine j_if_ne (tgt := 24) d152_18 (by decide) (by omega) (fun q3 => ?_) (fun q3 => ?_)
    ·
      refine (j_bipush d152_21 (by decide)).trans ?_
      exact g_iret d152_23 rfl rfl
    ·
      refine (g_aload_n d152_24 rfl rfl).trans ?_
      refine (g_aload_n d152_25 rfl rfl).trans ?_
      refine (g_getR (q := 60) d152_26 f10_38 sh_51 (by decide) rfl).trans ?_
      refine (j_iconst d152_29).trans ?_
      refine (g_iload_n d152_30 rfl).trans ?_
      refine (j_imul d152_31).trans ?_
      refine (j_ialoadB (v := ρ 60 (2 * a1)) d152_32 sh_60 (by omega) (by decide) rfl).trans ?_
      have q4 := T60a hT a1
      refine (j_putI d152_33 f10_181 sh_51 (by decide) rfl).trans ?_
      refine (g_aload_n d152_36 rfl rfl).trans ?_
      refine (g_aload_n d152_37 rfl rfl).trans ?_
      refine (g_getR (q := 60) d152_38 f10_38 sh_51 (by decide) rfl).trans ?_
      refine (j_iconst d152_41).trans ?_
      refine (g_iload_n d152_42 rfl).trans ?_
      refine (j_imul d152_43).trans ?_
      refine (j_iconst d152_44).trans ?_
      refine (j_iadd d152_45).trans ?_
      refine (j_ialoadB (v := ρ 60 ((2 * a1) + 1)) d152_46 sh_60 (by omega) (by decide) (by simp [rup])).trans ?_
      have q5 := hT.1 60 ((2 * a1) + 1) (by decide)
      refine (j_putI d152_47 f10_184 sh_51 (by decide) rfl).trans ?_
      refine (g_aload_n d152_50 rfl rfl).trans ?_
      refine (j_getI (v := ρ 60 ((2 * a1) + 1)) d152_51 f10_184 sh_51 (by decide) rfl (by simp [rup])).trans ?_
      exact g_iret d152_54 rfl rfl
  ·
    refine (j_bipush d152_9 (by decide)).trans ?_
    exact g_iret d152_11 rfl rfl
set_option maxRecDepth 10000 in
theorem s157 {Q : Option Value → mm → Prop} (ρ : rm) (τ : Int64) (a1 : Int) (a2 : Int) (hT : TI ρ) (h_a1 : SB a1) (h_a2 : SB a2) : G 157 0 (some (.ref 51) :: some (vI a1) :: some (vI a2) :: []) [] (toM ρ τ) Q = (if 0 ≤ a1 ∧ a1 ≤ ρ 51 5 - 1 then (if 0 ≤ a2 ∧ a2 ≤ ρ 51 5 - 1 then (if ((ρ 55 ((3 * a1) + 1)) + (oS ρ (ρ 55 (3 * a1)))) < ((ρ 55 ((3 * a2) + 1)) + (oS ρ (ρ 55 (3 * a2)))) then (if (((((ρ 55 ((3 * a2) + 1)) + (oS ρ (ρ 55 (3 * a2)))) - ((ρ 55 ((3 * a1) + 1)) + (oS ρ (ρ 55 (3 * a1))))) - (ρ 55 ((3 * a1) + 2))) - (ρ 57 ((10 * (ρ 55 (3 * a1))) + (ρ 55 (3 * a2))))) < 0 then Q (some (vI (-1))) (toM ρ τ) else Q (some (vI ((((((ρ 55 ((3 * a2) + 1)) + (oS ρ (ρ 55 (3 * a2)))) - ((ρ 55 ((3 * a1) + 1)) + (oS ρ (ρ 55 (3 * a1))))) - (ρ 55 ((3 * a1) + 2))) - (ρ 57 ((10 * (ρ 55 (3 * a1))) + (ρ 55 (3 * a2))))) + 100000))) (toM ρ τ)) else (if ((ρ 55 ((3 * a1) + 1)) + (oS ρ (ρ 55 (3 * a1)))) = ((ρ 55 ((3 * a2) + 1)) + (oS ρ (ρ 55 (3 * a2)))) then (if a2 ≤ a1 then Q (some (vI (-1))) (toM ρ τ) else (if (((((ρ 55 ((3 * a2) + 1)) + (oS ρ (ρ 55 (3 * a2)))) - ((ρ 55 ((3 * a1) + 1)) + (oS ρ (ρ 55 (3 * a1))))) - (ρ 55 ((3 * a1) + 2))) - (ρ 57 ((10 * (ρ 55 (3 * a1))) + (ρ 55 (3 * a2))))) < 0 then Q (some (vI (-1))) (toM ρ τ) else Q (some (vI ((((((ρ 55 ((3 * a2) + 1)) + (oS ρ (ρ 55 (3 * a2)))) - ((ρ 55 ((3 * a1) + 1)) + (oS ρ (ρ 55 (3 * a1))))) - (ρ 55 ((3 * a1) + 2))) - (ρ 57 ((10 * (ρ 55 (3 * a1))) + (ρ 55 (3 * a2))))) + 100000))) (toM ρ τ))) else Q (some (vI (-1))) (toM ρ τ))) else Q (some (vI (-2))) (toM ρ τ)) else Q (some (vI (-2))) (toM ρ τ)) := by
  refine (g_aload_n d157_0 rfl rfl).trans ?_
  refine (g_iload_n d157_1 rfl).trans ?_
  refine (g_cV d157_2 k10_215 rfl rfl rfl).trans ?_
  show G 120 0 [some (.ref 51), some (vI a1)] [] (toM ρ τ) _ = _
  refine (m_isDeed hT.1 (by omega)).trans ?_
  show G 157 5 (some (.ref 51) :: some (vI a1) :: some (vI a2) :: []) [vI (tv (0 ≤ a1 ∧ a1 ≤ ρ 51 5 - 1))] (toM ρ τ) _ = _
  have q1 := (show 0 ≤ ρ 51 5 ∧ ρ 51 5 ≤ 10 from hT.2 51 5)
  refine j_ifT_eq (tgt := 16) d157_5 (by decide) (fun q2 => ?_) (fun q2 => ?_)
  ·
    refine (g_aload_n d157_8 rfl rfl).trans ?_
    refine (g_iload_n d157_9 rfl).trans ?_
    refine (g_cV d157_10 k10_215 rfl rfl rfl).trans ?_
    show G 120 0 [some (.ref 51), some (vI a2)] [] (toM ρ τ) _ = _
    refine (m_isDeed hT.1 (by omega)).trans ?_
    show G 157 13 (some (.ref 51) :: some (vI a1) :: some (vI a2) :: []) [vI (tv (0 ≤ a2 ∧ a2 ≤ ρ 51 5 - 1))] (toM ρ τ) _ = _
    have q3 := (show 0 ≤ ρ 51 5 ∧ ρ 51 5 ≤ 10 from hT.2 51 5)
    refine j_ifT_ne (tgt := 19) d157_13 (by decide) (fun q4 => ?_) (fun q4 => ?_)
    ·
      refine (g_aload_n d157_19 rfl rfl).trans ?_
      refine (g_iload_n d157_20 rfl).trans ?_
      refine (g_iload_n d157_21 rfl).trans ?_
      refine (g_cV d157_22 k10_228 rfl rfl rfl).trans ?_
      show G 156 0 (some (.ref 51) :: some (vI a1) :: some (vI a2) :: []) [] (toM ρ τ) _ = _
      refine (g_aload_n d156_0 rfl rfl).trans ?_
      refine (g_iload_n d156_1 rfl).trans ?_
      refine (g_iload_n d156_2 rfl).trans ?_
      refine (g_cV d156_3 k10_221 rfl rfl rfl).trans ?_
      show G 153 0 (some (.ref 51) :: some (vI a1) :: some (vI a2) :: []) [] (toM ρ τ) _ = _
      refine (g_aload_n d153_0 rfl rfl).trans ?_
      refine (g_iload_n d153_1 rfl).trans ?_
      refine (g_cV d153_2 k10_218 rfl rfl rfl).trans ?_
      show G 146 0 (some (.ref 51) :: some (vI a1) :: []) [] (toM ρ τ) _ = _
      refine (g_aload_n d146_0 rfl rfl).trans ?_
      refine (g_getR (q := 55) d146_1 f10_23 sh_51 (by decide) rfl).trans ?_
      refine (j_iconst d146_4).trans ?_
      refine (g_iload_n d146_5 rfl).trans ?_
      refine (j_imul d146_6).trans ?_
      refine (j_iconst d146_7).trans ?_
      refine (j_iadd d146_8).trans ?_
      refine (j_ialoadB (v := ρ 55 ((3 * a1) + 1)) d146_9 sh_55 (by omega) (by decide) rfl).trans ?_
      have q5 := hT.1 55 ((3 * a1) + 1) (by decide)
      refine (g_aload_n d146_10 rfl rfl).trans ?_
      refine (g_aload_n d146_11 rfl rfl).trans ?_
      refine (g_getR (q := 55) d146_12 f10_23 sh_51 (by decide) rfl).trans ?_
      refine (j_iconst d146_15).trans ?_
      refine (g_iload_n d146_16 rfl).trans ?_
      refine (j_imul d146_17).trans ?_
      refine (j_ialoadB (v := ρ 55 (3 * a1)) d146_18 sh_55 (by omega) (by decide) rfl).trans ?_
      have q6 := T55a hT a1
      refine (g_cV d146_19 k10_199 rfl rfl rfl).trans ?_
      show G 137 0 [some (.ref 51), some (vI (ρ 55 (3 * a1)))] [] (toM ρ τ) _ = _
      refine (m_offOf hT.1 (by omega)).trans ?_
      show G 146 22 (some (.ref 51) :: some (vI a1) :: []) [vI (oS ρ (ρ 55 (3 * a1))), vI (ρ 55 ((3 * a1) + 1))] (toM ρ τ) _ = _
      have q7 := oS_rg hT (h := ρ 55 (3 * a1)) (by omega)
      refine (j_iadd d146_22).trans ?_
      refine (g_iret d146_23 rfl rfl).trans ?_
      show G 153 5 (some (.ref 51) :: some (vI a1) :: some (vI a2) :: []) [vI ((ρ 55 ((3 * a1) + 1)) + (oS ρ (ρ 55 (3 * a1))))] (toM ρ τ) _ = _
      refine (g_aload_n d153_5 rfl rfl).trans ?_
      refine (g_iload_n d153_6 rfl).trans ?_
      refine (g_cV d153_7 k10_218 rfl rfl rfl).trans ?_
      show G 146 0 (some (.ref 51) :: some (vI a2) :: []) [] (toM ρ τ) _ = _
      refine (g_aload_n d146_0 rfl rfl).trans ?_
      refine (g_getR (q := 55) d146_1 f10_23 sh_51 (by decide) rfl).trans ?_
      refine (j_iconst d146_4).trans ?_
      refine (g_iload_n d146_5 rfl).trans ?_
      refine (j_imul d146_6).trans ?_
      refine (j_iconst d146_7).trans ?_
      refine (j_iadd d146_8).trans ?_
      refine (j_ialoadB (v := ρ 55 ((3 * a2) + 1)) d146_9 sh_55 (by omega) (by decide) rfl).trans ?_
      have q8 := hT.1 55 ((3 * a2) + 1) (by decide)
      refine (g_aload_n d146_10 rfl rfl).trans ?_
      refine (g_aload_n d146_11 rfl rfl).trans ?_
      refine (g_getR (q := 55) d146_12 f10_23 sh_51 (by decide) rfl).trans ?_
      refine (j_iconst d146_15).trans ?_
      refine (g_iload_n d146_16 rfl).trans ?_
      refine (j_imul d146_17).trans ?_
      refine (j_ialoadB (v := ρ 55 (3 * a2)) d146_18 sh_55 (by omega) (by decide) rfl).trans ?_
      have q9 := T55a hT a2
      refine (g_cV d146_19 k10_199 rfl rfl rfl).trans ?_
      show G 137 0 [some (.ref 51), some (vI (ρ 55 (3 * a2)))] [] (toM ρ τ) _ = _
      refine (m_offOf hT.1 (by omega)).trans ?_
      show G 146 22 (some (.ref 51) :: some (vI a2) :: []) [vI (oS ρ (ρ 55 (3 * a2))), vI (ρ 55 ((3 * a2) + 1))] (toM ρ τ) _ = _
      have q10 := oS_rg hT (h := ρ 55 (3 * a2)) (by omega)
      refine (j_iadd d146_22).trans ?_
      refine (g_iret d146_23 rfl rfl).trans ?_
      show G 153 10 (some (.ref 51) :: some (vI a1) :: some (vI a2) :: []) [vI ((ρ 55 ((3 * a2) + 1)) + (oS ρ (ρ 55 (3 * a2)))), vI ((ρ 55 ((3 * a1) + 1)) + (oS ρ (ρ 55 (3 * a1))))] (toM ρ τ) _ = _
      refine j_icmp_lt (tgt := 31) d153_10 (by decide) (by omega) (by omega) (fun q11 => ?_) (fun q11 => ?_)
      ·
        refine (j_iconst d153_31).trans ?_
        refine (g_goto (tgt := 36) d153_32 (by decide)).trans ?_
        refine (g_iret d153_36 rfl rfl).trans ?_
        show G 156 6 (some (.ref 51) :: some (vI a1) :: some (vI a2) :: []) [vI 1] (toM ρ τ) _ = _
        refine ((g_if_eq (tgt := 22) d156_6 (by decide)).trans (if_neg (by decide))).trans ?_
        refine (g_aload_n d156_9 rfl rfl).trans ?_
        refine (g_iload_n d156_10 rfl).trans ?_
        refine (g_iload_n d156_11 rfl).trans ?_
        refine (g_cV d156_12 k10_225 rfl rfl rfl).trans ?_
        show G 155 0 (some (.ref 51) :: some (vI a1) :: some (vI a2) :: []) [] (toM ρ τ) _ = _
        refine (g_aload_n d155_0 rfl rfl).trans ?_
        refine (g_iload_n d155_1 rfl).trans ?_
        refine (g_cV d155_2 k10_218 rfl rfl rfl).trans ?_
        show G 146 0 (some (.ref 51) :: some (vI a2) :: []) [] (toM ρ τ) _ = _
        refine (g_aload_n d146_0 rfl rfl).trans ?_
        refine (g_getR (q := 55) d146_1 f10_23 sh_51 (by decide) rfl).trans ?_
        refine (j_iconst d146_4).trans ?_
        refine (g_iload_n d146_5 rfl).trans ?_
        refine (j_imul d146_6).trans ?_
        refine (j_iconst d146_7).trans ?_
        refine (j_iadd d146_8).trans ?_
        refine (j_ialoadB (v := ρ 55 ((3 * a2) + 1)) d146_9 sh_55 (by omega) (by decide) rfl).trans ?_
        refine (g_aload_n d146_10 rfl rfl).trans ?_
        refine (g_aload_n d146_11 rfl rfl).trans ?_
        refine (g_getR (q := 55) d146_12 f10_23 sh_51 (by decide) rfl).trans ?_
        refine (j_iconst d146_15).trans ?_
        refine (g_iload_n d146_16 rfl).trans ?_
        refine (j_imul d146_17).trans ?_
        refine (j_ialoadB (v := ρ 55 (3 * a2)) d146_18 sh_55 (by omega) (by decide) rfl).trans ?_
        refine (g_cV d146_19 k10_199 rfl rfl rfl).trans ?_
        show G 137 0 [some (.ref 51), some (vI (ρ 55 (3 * a2)))] [] (toM ρ τ) _ = _
        refine (m_offOf hT.1 (by omega)).trans ?_
        show G 146 22 (some (.ref 51) :: some (vI a2) :: []) [vI (oS ρ (ρ 55 (3 * a2))), vI (ρ 55 ((3 * a2) + 1))] (toM ρ τ) _ = _
        have q12 := oS_rg hT (h := ρ 55 (3 * a2)) (by omega)
        refine (j_iadd d146_22).trans ?_
        refine (g_iret d146_23 rfl rfl).trans ?_
        show G 155 5 (some (.ref 51) :: some (vI a1) :: some (vI a2) :: []) [vI ((ρ 55 ((3 * a2) + 1)) + (oS ρ (ρ 55 (3 * a2))))] (toM ρ τ) _ = _
        refine (g_aload_n d155_5 rfl rfl).trans ?_
        refine (g_iload_n d155_6 rfl).trans ?_
        refine (g_cV d155_7 k10_218 rfl rfl rfl).trans ?_
        show G 146 0 (some (.ref 51) :: some (vI a1) :: []) [] (toM ρ τ) _ = _
        refine (g_aload_n d146_0 rfl rfl).trans ?_
        refine (g_getR (q := 55) d146_1 f10_23 sh_51 (by decide) rfl).trans ?_
        refine (j_iconst d146_4).trans ?_
        refine (g_iload_n d146_5 rfl).trans ?_
        refine (j_imul d146_6).trans ?_
        refine (j_iconst d146_7).trans ?_
        refine (j_iadd d146_8).trans ?_
        refine (j_ialoadB (v := ρ 55 ((3 * a1) + 1)) d146_9 sh_55 (by omega) (by decide) rfl).trans ?_
        refine (g_aload_n d146_10 rfl rfl).trans ?_
        refine (g_aload_n d146_11 rfl rfl).trans ?_
        refine (g_getR (q := 55) d146_12 f10_23 sh_51 (by decide) rfl).trans ?_
        refine (j_iconst d146_15).trans ?_
        refine (g_iload_n d146_16 rfl).trans ?_
        refine (j_imul d146_17).trans ?_
        refine (j_ialoadB (v := ρ 55 (3 * a1)) d146_18 sh_55 (by omega) (by decide) rfl).trans ?_
        refine (g_cV d146_19 k10_199 rfl rfl rfl).trans ?_
        show G 137 0 [some (.ref 51), some (vI (ρ 55 (3 * a1)))] [] (toM ρ τ) _ = _
        refine (m_offOf hT.1 (by omega)).trans ?_
        show G 146 22 (some (.ref 51) :: some (vI a1) :: []) [vI (oS ρ (ρ 55 (3 * a1))), vI (ρ 55 ((3 * a1) + 1))] (toM ρ τ) _ = _
        have q13 := oS_rg hT (h := ρ 55 (3 * a1)) (by omega)
        refine (j_iadd d146_22).trans ?_
        refine (g_iret d146_23 rfl rfl).trans ?_
        show G 155 10 (some (.ref 51) :: some (vI a1) :: some (vI a2) :: []) [vI ((ρ 55 ((3 * a1) + 1)) + (oS ρ (ρ 55 (3 * a1)))), vI ((ρ 55 ((3 * a2) + 1)) + (oS ρ (ρ 55 (3 * a2))))] (toM ρ τ) _ = _
        refine (j_isub d155_10).trans ?_
        refine (g_aload_n d155_11 rfl rfl).trans ?_
        refine (g_getR (q := 55) d155_12 f10_23 sh_51 (by decide) rfl).trans ?_
        refine (j_iconst d155_15).trans ?_
        refine (g_iload_n d155_16 rfl).trans ?_
        refine (j_imul d155_17).trans ?_
        refine (j_iconst d155_18).trans ?_
        refine (j_iadd d155_19).trans ?_
        refine (j_ialoadB (v := ρ 55 ((3 * a1) + 2)) d155_20 sh_55 (by omega) (by decide) rfl).trans ?_
        have q14 := hT.1 55 ((3 * a1) + 2) (by decide)
        refine (j_isub d155_21).trans ?_
        refine (g_aload_n d155_22 rfl rfl).trans ?_
        refine (g_getR (q := 57) d155_23 f10_29 sh_51 (by decide) rfl).trans ?_
        refine (j_bipush d155_26 (by decide)).trans ?_
        refine (g_aload_n d155_28 rfl rfl).trans ?_
        refine (g_getR (q := 55) d155_29 f10_23 sh_51 (by decide) rfl).trans ?_
        refine (j_iconst d155_32).trans ?_
        refine (g_iload_n d155_33 rfl).trans ?_
        refine (j_imul d155_34).trans ?_
        refine (j_ialoadB (v := ρ 55 (3 * a1)) d155_35 sh_55 (by omega) (by decide) rfl).trans ?_
        refine (j_imul d155_36).trans ?_
        refine (g_aload_n d155_37 rfl rfl).trans ?_
        refine (g_getR (q := 55) d155_38 f10_23 sh_51 (by decide) rfl).trans ?_
        refine (j_iconst d155_41).trans ?_
        refine (g_iload_n d155_42 rfl).trans ?_
        refine (j_imul d155_43).trans ?_
        refine (j_ialoadB (v := ρ 55 (3 * a2)) d155_44 sh_55 (by omega) (by decide) rfl).trans ?_
        refine (j_iadd d155_45).trans ?_
        refine (j_ialoadB (v := ρ 57 ((10 * (ρ 55 (3 * a1))) + (ρ 55 (3 * a2)))) d155_46 sh_57 (by omega) (by decide) rfl).trans ?_
        have q15 : 0 ≤ ρ 57 ((10 * (ρ 55 (3 * a1))) + (ρ 55 (3 * a2))) ∧ ρ 57 ((10 * (ρ 55 (3 * a1))) + (ρ 55 (3 * a2))) ≤ 100000 := hT.2 57 ((10 * (ρ 55 (3 * a1))) + (ρ 55 (3 * a2)))
        refine (j_isub d155_47).trans ?_
        refine (g_iret d155_48 rfl rfl).trans ?_
        show G 156 15 (some (.ref 51) :: some (vI a1) :: some (vI a2) :: []) [vI (((((ρ 55 ((3 * a2) + 1)) + (oS ρ (ρ 55 (3 * a2)))) - ((ρ 55 ((3 * a1) + 1)) + (oS ρ (ρ 55 (3 * a1))))) - (ρ 55 ((3 * a1) + 2))) - (ρ 57 ((10 * (ρ 55 (3 * a1))) + (ρ 55 (3 * a2)))))] (toM ρ τ) _ = _
        refine j_if_lt (tgt := 22) d156_15 (by decide) (by omega) (fun q16 => ?_) (fun q16 => ?_)
        ·
          refine (j_iconst d156_22).trans ?_
          refine (g_iret d156_23 rfl rfl).trans ?_
          show G 157 25 (some (.ref 51) :: some (vI a1) :: some (vI a2) :: []) [vI 0] (toM ρ τ) _ = _
          refine ((g_if_eq (tgt := 40) d157_25 (by decide)).trans (if_pos (by decide))).trans ?_
          refine (j_iconst d157_40).trans ?_
          exact g_iret d157_41 rfl rfl
        ·
          refine (j_iconst d156_18).trans ?_
          refine (g_goto (tgt := 23) d156_19 (by decide)).trans ?_
          refine (g_iret d156_23 rfl rfl).trans ?_
          show G 157 25 (some (.ref 51) :: some (vI a1) :: some (vI a2) :: []) [vI 1] (toM ρ τ) _ = _
          refine ((g_if_eq (tgt := 40) d157_25 (by decide)).trans (if_neg (by decide))).trans ?_
          refine (g_aload_n d157_28 rfl rfl).trans ?_
          refine (g_iload_n d157_29 rfl).trans ?_
          refine (g_iload_n d157_30 rfl).trans ?_
          refine (g_cV d157_31 k10_225 rfl rfl rfl).trans ?_
          show G 155 0 (some (.ref 51) :: some (vI a1) :: some (vI a2) :: []) [] (toM ρ τ) _ = _
          refine (g_aload_n d155_0 rfl rfl).trans ?_
          refine (g_iload_n d155_1 rfl).trans ?_
          refine (g_cV d155_2 k10_218 rfl rfl rfl).trans ?_
          show G 146 0 (some (.ref 51) :: some (vI a2) :: []) [] (toM ρ τ) _ = _
          refine (g_aload_n d146_0 rfl rfl).trans ?_
          refine (g_getR (q := 55) d146_1 f10_23 sh_51 (by decide) rfl).trans ?_
          refine (j_iconst d146_4).trans ?_
          refine (g_iload_n d146_5 rfl).trans ?_
          refine (j_imul d146_6).trans ?_
          refine (j_iconst d146_7).trans ?_
          refine (j_iadd d146_8).trans ?_
          refine (j_ialoadB (v := ρ 55 ((3 * a2) + 1)) d146_9 sh_55 (by omega) (by decide) rfl).trans ?_
          refine (g_aload_n d146_10 rfl rfl).trans ?_
          refine (g_aload_n d146_11 rfl rfl).trans ?_
          refine (g_getR (q := 55) d146_12 f10_23 sh_51 (by decide) rfl).trans ?_
          refine (j_iconst d146_15).trans ?_
          refine (g_iload_n d146_16 rfl).trans ?_
          refine (j_imul d146_17).trans ?_
          refine (j_ialoadB (v := ρ 55 (3 * a2)) d146_18 sh_55 (by omega) (by decide) rfl).trans ?_
          refine (g_cV d146_19 k10_199 rfl rfl rfl).trans ?_
          show G 137 0 [some (.ref 51), some (vI (ρ 55 (3 * a2)))] [] (toM ρ τ) _ = _
          refine (m_offOf hT.1 (by omega)).trans ?_
          show G 146 22 (some (.ref 51) :: some (vI a2) :: []) [vI (oS ρ (ρ 55 (3 * a2))), vI (ρ 55 ((3 * a2) + 1))] (toM ρ τ) _ = _
          have q17 := oS_rg hT (h := ρ 55 (3 * a2)) (by omega)
          refine (j_iadd d146_22).trans ?_
          refine (g_iret d146_23 rfl rfl).trans ?_
          show G 155 5 (some (.ref 51) :: some (vI a1) :: some (vI a2) :: []) [vI ((ρ 55 ((3 * a2) + 1)) + (oS ρ (ρ 55 (3 * a2))))] (toM ρ τ) _ = _
          refine (g_aload_n d155_5 rfl rfl).trans ?_
          refine (g_iload_n d155_6 rfl).trans ?_
          refine (g_cV d155_7 k10_218 rfl rfl rfl).trans ?_
          show G 146 0 (some (.ref 51) :: some (vI a1) :: []) [] (toM ρ τ) _ = _
          refine (g_aload_n d146_0 rfl rfl).trans ?_
          refine (g_getR (q := 55) d146_1 f10_23 sh_51 (by decide) rfl).trans ?_
          refine (j_iconst d146_4).trans ?_
          refine (g_iload_n d146_5 rfl).trans ?_
          refine (j_imul d146_6).trans ?_
          refine (j_iconst d146_7).trans ?_
          refine (j_iadd d146_8).trans ?_
          refine (j_ialoadB (v := ρ 55 ((3 * a1) + 1)) d146_9 sh_55 (by omega) (by decide) rfl).trans ?_
          refine (g_aload_n d146_10 rfl rfl).trans ?_
          refine (g_aload_n d146_11 rfl rfl).trans ?_
          refine (g_getR (q := 55) d146_12 f10_23 sh_51 (by decide) rfl).trans ?_
          refine (j_iconst d146_15).trans ?_
          refine (g_iload_n d146_16 rfl).trans ?_
          refine (j_imul d146_17).trans ?_
          refine (j_ialoadB (v := ρ 55 (3 * a1)) d146_18 sh_55 (by omega) (by decide) rfl).trans ?_
          refine (g_cV d146_19 k10_199 rfl rfl rfl).trans ?_
          show G 137 0 [some (.ref 51), some (vI (ρ 55 (3 * a1)))] [] (toM ρ τ) _ = _
          refine (m_offOf hT.1 (by omega)).trans ?_
          show G 146 22 (some (.ref 51) :: some (vI a1) :: []) [vI (oS ρ (ρ 55 (3 * a1))), vI (ρ 55 ((3 * a1) + 1))] (toM ρ τ) _ = _
          have q18 := oS_rg hT (h := ρ 55 (3 * a1)) (by omega)
          refine (j_iadd d146_22).trans ?_
          refine (g_iret d146_23 rfl rfl).trans ?_
          show G 155 10 (some (.ref 51) :: some (vI a1) :: some (vI a2) :: []) [vI ((ρ 55 ((3 * a1) + 1)) + (oS ρ (ρ 55 (3 * a1)))), vI ((ρ 55 ((3 * a2) + 1)) + (oS ρ (ρ 55 (3 * a2))))] (toM ρ τ) _ = _
          refine (j_isub d155_10).trans ?_
          refine (g_aload_n d155_11 rfl rfl).trans ?_
          refine (g_getR (q := 55) d155_12 f10_23 sh_51 (by decide) rfl).trans ?_
          refine (j_iconst d155_15).trans ?_
          refine (g_iload_n d155_16 rfl).trans ?_
          refine (j_imul d155_17).trans ?_
          refine (j_iconst d155_18).trans ?_
          refine (j_iadd d155_19).trans ?_
          refine (j_ialoadB (v := ρ 55 ((3 * a1) + 2)) d155_20 sh_55 (by omega) (by decide) rfl).trans ?_
          refine (j_isub d155_21).trans ?_
          refine (g_aload_n d155_22 rfl rfl).trans ?_
          refine (g_getR (q := 57) d155_23 f10_29 sh_51 (by decide) rfl).trans ?_
          refine (j_bipush d155_26 (by decide)).trans ?_
          refine (g_aload_n d155_28 rfl rfl).trans ?_
          refine (g_getR (q := 55) d155_29 f10_23 sh_51 (by decide) rfl).trans ?_
          refine (j_iconst d155_32).trans ?_
          refine (g_iload_n d155_33 rfl).trans ?_
          refine (j_imul d155_34).trans ?_
          refine (j_ialoadB (v := ρ 55 (3 * a1)) d155_35 sh_55 (by omega) (by decide) rfl).trans ?_
          refine (j_imul d155_36).trans ?_
          refine (g_aload_n d155_37 rfl rfl).trans ?_
          refine (g_getR (q := 55) d155_38 f10_23 sh_51 (by decide) rfl).trans ?_
          refine (j_iconst d155_41).trans ?_
          refine (g_iload_n d155_42 rfl).trans ?_
          refine (j_imul d155_43).trans ?_
          refine (j_ialoadB (v := ρ 55 (3 * a2)) d155_44 sh_55 (by omega) (by decide) rfl).trans ?_
          refine (j_iadd d155_45).trans ?_
          refine (j_ialoadB (v := ρ 57 ((10 * (ρ 55 (3 * a1))) + (ρ 55 (3 * a2)))) d155_46 sh_57 (by omega) (by decide) rfl).trans ?_
          refine (j_isub d155_47).trans ?_
          refine (g_iret d155_48 rfl rfl).trans ?_
          show G 157 34 (some (.ref 51) :: some (vI a1) :: some (vI a2) :: []) [vI (((((ρ 55 ((3 * a2) + 1)) + (oS ρ (ρ 55 (3 * a2)))) - ((ρ 55 ((3 * a1) + 1)) + (oS ρ (ρ 55 (3 * a1))))) - (ρ 55 ((3 * a1) + 2))) - (ρ 57 ((10 * (ρ 55 (3 * a1))) + (ρ 55 (3 * a2)))))] (toM ρ τ) _ = _
          refine (j_ldc (n := 100000) d157_34 cs10_82 (by decide)).trans ?_
          refine (j_iadd d157_36).trans ?_
          refine (g_goto (tgt := 41) d157_37 (by decide)).trans ?_
          exact g_iret d157_41 rfl rfl
      ·
        refine (g_aload_n d153_13 rfl rfl).trans ?_
        refine (g_iload_n d153_14 rfl).trans ?_
        refine (g_cV d153_15 k10_218 rfl rfl rfl).trans ?_
        show G 146 0 (some (.ref 51) :: some (vI a1) :: []) [] (toM ρ τ) _ = _
        refine (g_aload_n d146_0 rfl rfl).trans ?_
        refine (g_getR (q := 55) d146_1 f10_23 sh_51 (by decide) rfl).trans ?_
        refine (j_iconst d146_4).trans ?_
        refine (g_iload_n d146_5 rfl).trans ?_
        refine (j_imul d146_6).trans ?_
        refine (j_iconst d146_7).trans ?_
        refine (j_iadd d146_8).trans ?_
        refine (j_ialoadB (v := ρ 55 ((3 * a1) + 1)) d146_9 sh_55 (by omega) (by decide) rfl).trans ?_
        refine (g_aload_n d146_10 rfl rfl).trans ?_
        refine (g_aload_n d146_11 rfl rfl).trans ?_
        refine (g_getR (q := 55) d146_12 f10_23 sh_51 (by decide) rfl).trans ?_
        refine (j_iconst d146_15).trans ?_
        refine (g_iload_n d146_16 rfl).trans ?_
        refine (j_imul d146_17).trans ?_
        refine (j_ialoadB (v := ρ 55 (3 * a1)) d146_18 sh_55 (by omega) (by decide) rfl).trans ?_
        refine (g_cV d146_19 k10_199 rfl rfl rfl).trans ?_
        show G 137 0 [some (.ref 51), some (vI (ρ 55 (3 * a1)))] [] (toM ρ τ) _ = _
        refine (m_offOf hT.1 (by omega)).trans ?_
        show G 146 22 (some (.ref 51) :: some (vI a1) :: []) [vI (oS ρ (ρ 55 (3 * a1))), vI (ρ 55 ((3 * a1) + 1))] (toM ρ τ) _ = _
        have q19 := oS_rg hT (h := ρ 55 (3 * a1)) (by omega)
        refine (j_iadd d146_22).trans ?_
        refine (g_iret d146_23 rfl rfl).trans ?_
        show G 153 18 (some (.ref 51) :: some (vI a1) :: some (vI a2) :: []) [vI ((ρ 55 ((3 * a1) + 1)) + (oS ρ (ρ 55 (3 * a1))))] (toM ρ τ) _ = _
        refine (g_aload_n d153_18 rfl rfl).trans ?_
        refine (g_iload_n d153_19 rfl).trans ?_
        refine (g_cV d153_20 k10_218 rfl rfl rfl).trans ?_
        show G 146 0 (some (.ref 51) :: some (vI a2) :: []) [] (toM ρ τ) _ = _
        refine (g_aload_n d146_0 rfl rfl).trans ?_
        refine (g_getR (q := 55) d146_1 f10_23 sh_51 (by decide) rfl).trans ?_
        refine (j_iconst d146_4).trans ?_
        refine (g_iload_n d146_5 rfl).trans ?_
        refine (j_imul d146_6).trans ?_
        refine (j_iconst d146_7).trans ?_
        refine (j_iadd d146_8).trans ?_
        refine (j_ialoadB (v := ρ 55 ((3 * a2) + 1)) d146_9 sh_55 (by omega) (by decide) rfl).trans ?_
        refine (g_aload_n d146_10 rfl rfl).trans ?_
        refine (g_aload_n d146_11 rfl rfl).trans ?_
        refine (g_getR (q := 55) d146_12 f10_23 sh_51 (by decide) rfl).trans ?_
        refine (j_iconst d146_15).trans ?_
        refine (g_iload_n d146_16 rfl).trans ?_
        refine (j_imul d146_17).trans ?_
        refine (j_ialoadB (v := ρ 55 (3 * a2)) d146_18 sh_55 (by omega) (by decide) rfl).trans ?_
        refine (g_cV d146_19 k10_199 rfl rfl rfl).trans ?_
        show G 137 0 [some (.ref 51), some (vI (ρ 55 (3 * a2)))] [] (toM ρ τ) _ = _
        refine (m_offOf hT.1 (by omega)).trans ?_
        show G 146 22 (some (.ref 51) :: some (vI a2) :: []) [vI (oS ρ (ρ 55 (3 * a2))), vI (ρ 55 ((3 * a2) + 1))] (toM ρ τ) _ = _
        have q20 := oS_rg hT (h := ρ 55 (3 * a2)) (by omega)
        refine (j_iadd d146_22).trans ?_
        refine (g_iret d146_23 rfl rfl).trans ?_
        show G 153 23 (some (.ref 51) :: some (vI a1) :: some (vI a2) :: []) [vI ((ρ 55 ((3 * a2) + 1)) + (oS ρ (ρ 55 (3 * a2)))), vI ((ρ 55 ((3 * a1) + 1)) + (oS ρ (ρ 55 (3 * a1))))] (toM ρ τ) _ = _
        refine j_icmp_ne (tgt := 35) d153_23 (by decide) (by omega) (by omega) (fun q21 => ?_) (fun q21 => ?_)
        ·
          refine (g_iload_n d153_26 rfl).trans ?_
          refine (g_iload_n d153_27 rfl).trans ?_
          refine j_icmp_ge (tgt := 35) d153_28 (by decide) (by omega) (by omega) (fun q22 => ?_) (fun q22 => ?_)
          ·
            refine (j_iconst d153_35).trans ?_
            refine (g_iret d153_36 rfl rfl).trans ?_
            show G 156 6 (some (.ref 51) :: some (vI a1) :: some (vI a2) :: []) [vI 0] (toM ρ τ) _ = _
            refine ((g_if_eq (tgt := 22) d156_6 (by decide)).trans (if_pos (by decide))).trans ?_
            refine (j_iconst d156_22).trans ?_
            refine (g_iret d156_23 rfl rfl).trans ?_
            show G 157 25 (some (.ref 51) :: some (vI a1) :: some (vI a2) :: []) [vI 0] (toM ρ τ) _ = _
            refine ((g_if_eq (tgt := 40) d157_25 (by decide)).trans (if_pos (by decide))).trans ?_
            refine (j_iconst d157_40).trans ?_
            exact g_iret d157_41 rfl rfl
          ·
            refine (j_iconst d153_31).trans ?_
            refine (g_goto (tgt := 36) d153_32 (by decide)).trans ?_
            refine (g_iret d153_36 rfl rfl).trans ?_
            show G 156 6 (some (.ref 51) :: some (vI a1) :: some (vI a2) :: []) [vI 1] (toM ρ τ) _ = _
            refine ((g_if_eq (tgt := 22) d156_6 (by decide)).trans (if_neg (by decide))).trans ?_
            refine (g_aload_n d156_9 rfl rfl).trans ?_
            refine (g_iload_n d156_10 rfl).trans ?_
            refine (g_iload_n d156_11 rfl).trans ?_
            refine (g_cV d156_12 k10_225 rfl rfl rfl).trans ?_
            show G 155 0 (some (.ref 51) :: some (vI a1) :: some (vI a2) :: []) [] (toM ρ τ) _ = _
            refine (g_aload_n d155_0 rfl rfl).trans ?_
            refine (g_iload_n d155_1 rfl).trans ?_
            refine (g_cV d155_2 k10_218 rfl rfl rfl).trans ?_
            show G 146 0 (some (.ref 51) :: some (vI a2) :: []) [] (toM ρ τ) _ = _
            refine (g_aload_n d146_0 rfl rfl).trans ?_
            refine (g_getR (q := 55) d146_1 f10_23 sh_51 (by decide) rfl).trans ?_
            refine (j_iconst d146_4).trans ?_
            refine (g_iload_n d146_5 rfl).trans ?_
            refine (j_imul d146_6).trans ?_
            refine (j_iconst d146_7).trans ?_
            refine (j_iadd d146_8).trans ?_
            refine (j_ialoadB (v := ρ 55 ((3 * a2) + 1)) d146_9 sh_55 (by omega) (by decide) rfl).trans ?_
            refine (g_aload_n d146_10 rfl rfl).trans ?_
            refine (g_aload_n d146_11 rfl rfl).trans ?_
            refine (g_getR (q := 55) d146_12 f10_23 sh_51 (by decide) rfl).trans ?_
            refine (j_iconst d146_15).trans ?_
            refine (g_iload_n d146_16 rfl).trans ?_
            refine (j_imul d146_17).trans ?_
            refine (j_ialoadB (v := ρ 55 (3 * a2)) d146_18 sh_55 (by omega) (by decide) rfl).trans ?_
            refine (g_cV d146_19 k10_199 rfl rfl rfl).trans ?_
            show G 137 0 [some (.ref 51), some (vI (ρ 55 (3 * a2)))] [] (toM ρ τ) _ = _
            refine (m_offOf hT.1 (by omega)).trans ?_
            show G 146 22 (some (.ref 51) :: some (vI a2) :: []) [vI (oS ρ (ρ 55 (3 * a2))), vI (ρ 55 ((3 * a2) + 1))] (toM ρ τ) _ = _
            have q23 := oS_rg hT (h := ρ 55 (3 * a2)) (by omega)
            refine (j_iadd d146_22).trans ?_
            refine (g_iret d146_23 rfl rfl).trans ?_
            show G 155 5 (some (.ref 51) :: some (vI a1) :: some (vI a2) :: []) [vI ((ρ 55 ((3 * a2) + 1)) + (oS ρ (ρ 55 (3 * a2))))] (toM ρ τ) _ = _
            refine (g_aload_n d155_5 rfl rfl).trans ?_
            refine (g_iload_n d155_6 rfl).trans ?_
            refine (g_cV d155_7 k10_218 rfl rfl rfl).trans ?_
            show G 146 0 (some (.ref 51) :: some (vI a1) :: []) [] (toM ρ τ) _ = _
            refine (g_aload_n d146_0 rfl rfl).trans ?_
            refine (g_getR (q := 55) d146_1 f10_23 sh_51 (by decide) rfl).trans ?_
            refine (j_iconst d146_4).trans ?_
            refine (g_iload_n d146_5 rfl).trans ?_
            refine (j_imul d146_6).trans ?_
            refine (j_iconst d146_7).trans ?_
            refine (j_iadd d146_8).trans ?_
            refine (j_ialoadB (v := ρ 55 ((3 * a1) + 1)) d146_9 sh_55 (by omega) (by decide) rfl).trans ?_
            refine (g_aload_n d146_10 rfl rfl).trans ?_
            refine (g_aload_n d146_11 rfl rfl).trans ?_
            refine (g_getR (q := 55) d146_12 f10_23 sh_51 (by decide) rfl).trans ?_
            refine (j_iconst d146_15).trans ?_
            refine (g_iload_n d146_16 rfl).trans ?_
            refine (j_imul d146_17).trans ?_
            refine (j_ialoadB (v := ρ 55 (3 * a1)) d146_18 sh_55 (by omega) (by decide) rfl).trans ?_
            refine (g_cV d146_19 k10_199 rfl rfl rfl).trans ?_
            show G 137 0 [some (.ref 51), some (vI (ρ 55 (3 * a1)))] [] (toM ρ τ) _ = _
            refine (m_offOf hT.1 (by omega)).trans ?_
            show G 146 22 (some (.ref 51) :: some (vI a1) :: []) [vI (oS ρ (ρ 55 (3 * a1))), vI (ρ 55 ((3 * a1) + 1))] (toM ρ τ) _ = _
            have q24 := oS_rg hT (h := ρ 55 (3 * a1)) (by omega)
            refine (j_iadd d146_22).trans ?_
            refine (g_iret d146_23 rfl rfl).trans ?_
            show G 155 10 (some (.ref 51) :: some (vI a1) :: some (vI a2) :: []) [vI ((ρ 55 ((3 * a1) + 1)) + (oS ρ (ρ 55 (3 * a1)))), vI ((ρ 55 ((3 * a2) + 1)) + (oS ρ (ρ 55 (3 * a2))))] (toM ρ τ) _ = _
            refine (j_isub d155_10).trans ?_
            refine (g_aload_n d155_11 rfl rfl).trans ?_
            refine (g_getR (q := 55) d155_12 f10_23 sh_51 (by decide) rfl).trans ?_
            refine (j_iconst d155_15).trans ?_
            refine (g_iload_n d155_16 rfl).trans ?_
            refine (j_imul d155_17).trans ?_
            refine (j_iconst d155_18).trans ?_
            refine (j_iadd d155_19).trans ?_
            refine (j_ialoadB (v := ρ 55 ((3 * a1) + 2)) d155_20 sh_55 (by omega) (by decide) rfl).trans ?_
            have q25 := hT.1 55 ((3 * a1) + 2) (by decide)
            refine (j_isub d155_21).trans ?_
            refine (g_aload_n d155_22 rfl rfl).trans ?_
            refine (g_getR (q := 57) d155_23 f10_29 sh_51 (by decide) rfl).trans ?_
            refine (j_bipush d155_26 (by decide)).trans ?_
            refine (g_aload_n d155_28 rfl rfl).trans ?_
            refine (g_getR (q := 55) d155_29 f10_23 sh_51 (by decide) rfl).trans ?_
            refine (j_iconst d155_32).trans ?_
            refine (g_iload_n d155_33 rfl).trans ?_
            refine (j_imul d155_34).trans ?_
            refine (j_ialoadB (v := ρ 55 (3 * a1)) d155_35 sh_55 (by omega) (by decide) rfl).trans ?_
            refine (j_imul d155_36).trans ?_
            refine (g_aload_n d155_37 rfl rfl).trans ?_
            refine (g_getR (q := 55) d155_38 f10_23 sh_51 (by decide) rfl).trans ?_
            refine (j_iconst d155_41).trans ?_
            refine (g_iload_n d155_42 rfl).trans ?_
            refine (j_imul d155_43).trans ?_
            refine (j_ialoadB (v := ρ 55 (3 * a2)) d155_44 sh_55 (by omega) (by decide) rfl).trans ?_
            refine (j_iadd d155_45).trans ?_
            refine (j_ialoadB (v := ρ 57 ((10 * (ρ 55 (3 * a1))) + (ρ 55 (3 * a2)))) d155_46 sh_57 (by omega) (by decide) rfl).trans ?_
            have q26 : 0 ≤ ρ 57 ((10 * (ρ 55 (3 * a1))) + (ρ 55 (3 * a2))) ∧ ρ 57 ((10 * (ρ 55 (3 * a1))) + (ρ 55 (3 * a2))) ≤ 100000 := hT.2 57 ((10 * (ρ 55 (3 * a1))) + (ρ 55 (3 * a2)))
            refine (j_isub d155_47).trans ?_
            refine (g_iret d155_48 rfl rfl).trans ?_
            show G 156 15 (some (.ref 51) :: some (vI a1) :: some (vI a2) :: []) [vI (((((ρ 55 ((3 * a2) + 1)) + (oS ρ (ρ 55 (3 * a2)))) - ((ρ 55 ((3 * a1) + 1)) + (oS ρ (ρ 55 (3 * a1))))) - (ρ 55 ((3 * a1) + 2))) - (ρ 57 ((10 * (ρ 55 (3 * a1))) + (ρ 55 (3 * a2)))))] (toM ρ τ) _ = _
            refine j_if_lt (tgt := 22) d156_15 (by decide) (by omega) (fun q27 => ?_) (fun q27 => ?_)
            ·
              refine (j_iconst d156_22).trans ?_
              refine (g_iret d156_23 rfl rfl).trans ?_
              show G 157 25 (some (.ref 51) :: some (vI a1) :: some (vI a2) :: []) [vI 0] (toM ρ τ) _ = _
              refine ((g_if_eq (tgt := 40) d157_25 (by decide)).trans (if_pos (by decide))).trans ?_
              refine (j_iconst d157_40).trans ?_
              exact g_iret d157_41 rfl rfl
            ·
              refine (j_iconst d156_18).trans ?_
              refine (g_goto (tgt := 23) d156_19 (by decide)).trans ?_
              refine (g_iret d156_23 rfl rfl).trans ?_
              show G 157 25 (some (.ref 51) :: some (vI a1) :: some (vI a2) :: []) [vI 1] (toM ρ τ) _ = _
              refine ((g_if_eq (tgt := 40) d157_25 (by decide)).trans (if_neg (by decide))).trans ?_
              refine (g_aload_n d157_28 rfl rfl).trans ?_
              refine (g_iload_n d157_29 rfl).trans ?_
              refine (g_iload_n d157_30 rfl).trans ?_
              refine (g_cV d157_31 k10_225 rfl rfl rfl).trans ?_
              show G 155 0 (some (.ref 51) :: some (vI a1) :: some (vI a2) :: []) [] (toM ρ τ) _ = _
              refine (g_aload_n d155_0 rfl rfl).trans ?_
              refine (g_iload_n d155_1 rfl).trans ?_
              refine (g_cV d155_2 k10_218 rfl rfl rfl).trans ?_
              show G 146 0 (some (.ref 51) :: some (vI a2) :: []) [] (toM ρ τ) _ = _
              refine (g_aload_n d146_0 rfl rfl).trans ?_
              refine (g_getR (q := 55) d146_1 f10_23 sh_51 (by decide) rfl).trans ?_
              refine (j_iconst d146_4).trans ?_
              refine (g_iload_n d146_5 rfl).trans ?_
              refine (j_imul d146_6).trans ?_
              refine (j_iconst d146_7).trans ?_
              refine (j_iadd d146_8).trans ?_
              refine (j_ialoadB (v := ρ 55 ((3 * a2) + 1)) d146_9 sh_55 (by omega) (by decide) rfl).trans ?_
              refine (g_aload_n d146_10 rfl rfl).trans ?_
              refine (g_aload_n d146_11 rfl rfl).trans ?_
              refine (g_getR (q := 55) d146_12 f10_23 sh_51 (by decide) rfl).trans ?_
              refine (j_iconst d146_15).trans ?_
              refine (g_iload_n d146_16 rfl).trans ?_
              refine (j_imul d146_17).trans ?_
              refine (j_ialoadB (v := ρ 55 (3 * a2)) d146_18 sh_55 (by omega) (by decide) rfl).trans ?_
              refine (g_cV d146_19 k10_199 rfl rfl rfl).trans ?_
              show G 137 0 [some (.ref 51), some (vI (ρ 55 (3 * a2)))] [] (toM ρ τ) _ = _
              refine (m_offOf hT.1 (by omega)).trans ?_
              show G 146 22 (some (.ref 51) :: some (vI a2) :: []) [vI (oS ρ (ρ 55 (3 * a2))), vI (ρ 55 ((3 * a2) + 1))] (toM ρ τ) _ = _
              have q28 := oS_rg hT (h := ρ 55 (3 * a2)) (by omega)
              refine (j_iadd d146_22).trans ?_
              refine (g_iret d146_23 rfl rfl).trans ?_
              show G 155 5 (some (.ref 51) :: some (vI a1) :: some (vI a2) :: []) [vI ((ρ 55 ((3 * a2) + 1)) + (oS ρ (ρ 55 (3 * a2))))] (toM ρ τ) _ = _
              refine (g_aload_n d155_5 rfl rfl).trans ?_
              refine (g_iload_n d155_6 rfl).trans ?_
              refine (g_cV d155_7 k10_218 rfl rfl rfl).trans ?_
              show G 146 0 (some (.ref 51) :: some (vI a1) :: []) [] (toM ρ τ) _ = _
              refine (g_aload_n d146_0 rfl rfl).trans ?_
              refine (g_getR (q := 55) d146_1 f10_23 sh_51 (by decide) rfl).trans ?_
              refine (j_iconst d146_4).trans ?_
              refine (g_iload_n d146_5 rfl).trans ?_
              refine (j_imul d146_6).trans ?_
              refine (j_iconst d146_7).trans ?_
              refine (j_iadd d146_8).trans ?_
              refine (j_ialoadB (v := ρ 55 ((3 * a1) + 1)) d146_9 sh_55 (by omega) (by decide) rfl).trans ?_
              refine (g_aload_n d146_10 rfl rfl).trans ?_
              refine (g_aload_n d146_11 rfl rfl).trans ?_
              refine (g_getR (q := 55) d146_12 f10_23 sh_51 (by decide) rfl).trans ?_
              refine (j_iconst d146_15).trans ?_
              refine (g_iload_n d146_16 rfl).trans ?_
              refine (j_imul d146_17).trans ?_
              refine (j_ialoadB (v := ρ 55 (3 * a1)) d146_18 sh_55 (by omega) (by decide) rfl).trans ?_
              refine (g_cV d146_19 k10_199 rfl rfl rfl).trans ?_
              show G 137 0 [some (.ref 51), some (vI (ρ 55 (3 * a1)))] [] (toM ρ τ) _ = _
              refine (m_offOf hT.1 (by omega)).trans ?_
              show G 146 22 (some (.ref 51) :: some (vI a1) :: []) [vI (oS ρ (ρ 55 (3 * a1))), vI (ρ 55 ((3 * a1) + 1))] (toM ρ τ) _ = _
              have q29 := oS_rg hT (h := ρ 55 (3 * a1)) (by omega)
              refine (j_iadd d146_22).trans ?_
              refine (g_iret d146_23 rfl rfl).trans ?_
              show G 155 10 (some (.ref 51) :: some (vI a1) :: some (vI a2) :: []) [vI ((ρ 55 ((3 * a1) + 1)) + (oS ρ (ρ 55 (3 * a1)))), vI ((ρ 55 ((3 * a2) + 1)) + (oS ρ (ρ 55 (3 * a2))))] (toM ρ τ) _ = _
              refine (j_isub d155_10).trans ?_
              refine (g_aload_n d155_11 rfl rfl).trans ?_
              refine (g_getR (q := 55) d155_12 f10_23 sh_51 (by decide) rfl).trans ?_
              refine (j_iconst d155_15).trans ?_
              refine (g_iload_n d155_16 rfl).trans ?_
              refine (j_imul d155_17).trans ?_
              refine (j_iconst d155_18).trans ?_
              refine (j_iadd d155_19).trans ?_
              refine (j_ialoadB (v := ρ 55 ((3 * a1) + 2)) d155_20 sh_55 (by omega) (by decide) rfl).trans ?_
              refine (j_isub d155_21).trans ?_
              refine (g_aload_n d155_22 rfl rfl).trans ?_
              refine (g_getR (q := 57) d155_23 f10_29 sh_51 (by decide) rfl).trans ?_
              refine (j_bipush d155_26 (by decide)).trans ?_
              refine (g_aload_n d155_28 rfl rfl).trans ?_
              refine (g_getR (q := 55) d155_29 f10_23 sh_51 (by decide) rfl).trans ?_
              refine (j_iconst d155_32).trans ?_
              refine (g_iload_n d155_33 rfl).trans ?_
              refine (j_imul d155_34).trans ?_
              refine (j_ialoadB (v := ρ 55 (3 * a1)) d155_35 sh_55 (by omega) (by decide) rfl).trans ?_
              refine (j_imul d155_36).trans ?_
              refine (g_aload_n d155_37 rfl rfl).trans ?_
              refine (g_getR (q := 55) d155_38 f10_23 sh_51 (by decide) rfl).trans ?_
              refine (j_iconst d155_41).trans ?_
              refine (g_iload_n d155_42 rfl).trans ?_
              refine (j_imul d155_43).trans ?_
              refine (j_ialoadB (v := ρ 55 (3 * a2)) d155_44 sh_55 (by omega) (by decide) rfl).trans ?_
              refine (j_iadd d155_45).trans ?_
              refine (j_ialoadB (v := ρ 57 ((10 * (ρ 55 (3 * a1))) + (ρ 55 (3 * a2)))) d155_46 sh_57 (by omega) (by decide) rfl).trans ?_
              refine (j_isub d155_47).trans ?_
              refine (g_iret d155_48 rfl rfl).trans ?_
              show G 157 34 (some (.ref 51) :: some (vI a1) :: some (vI a2) :: []) [vI (((((ρ 55 ((3 * a2) + 1)) + (oS ρ (ρ 55 (3 * a2)))) - ((ρ 55 ((3 * a1) + 1)) + (oS ρ (ρ 55 (3 * a1))))) - (ρ 55 ((3 * a1) + 2))) - (ρ 57 ((10 * (ρ 55 (3 * a1))) + (ρ 55 (3 * a2)))))] (toM ρ τ) _ = _
              refine (j_ldc (n := 100000) d157_34 cs10_82 (by decide)).trans ?_
              refine (j_iadd d157_36).trans ?_
              refine (g_goto (tgt := 41) d157_37 (by decide)).trans ?_
              exact g_iret d157_41 rfl rfl
        ·
          refine (j_iconst d153_35).trans ?_
          refine (g_iret d153_36 rfl rfl).trans ?_
          show G 156 6 (some (.ref 51) :: some (vI a1) :: some (vI a2) :: []) [vI 0] (toM ρ τ) _ = _
          refine ((g_if_eq (tgt := 22) d156_6 (by decide)).trans (if_pos (by decide))).trans ?_
          refine (j_iconst d156_22).trans ?_
          refine (g_iret d156_23 rfl rfl).trans ?_
          show G 157 25 (some (.ref 51) :: some (vI a1) :: some (vI a2) :: []) [vI 0] (toM ρ τ) _ = _
          refine ((g_if_eq (tgt := 40) d157_25 (by decide)).trans (if_pos (by decide))).trans ?_
          refine (j_iconst d157_40).trans ?_
          exact g_iret d157_41 rfl rfl
    ·
      refine (j_bipush d157_16 (by decide)).trans ?_
      exact g_iret d157_18 rfl rfl
  ·
    refine (j_bipush d157_16 (by decide)).trans ?_
    exact g_iret d157_18 rfl rfl
set_option maxRecDepth 10000 in
theorem s160 {Q : Option Value → mm → Prop} (ρ : rm) (τ : Int64) (a1 : Int) (hT : TI ρ) (h_a1 : SB a1) : G 160 0 (some (.ref 51) :: some (vI a1) :: []) [] (toM ρ τ) Q = (if 0 ≤ a1 ∧ a1 ≤ ρ 51 0 - 1 then (if (ρ 51 28) = 12 then Q (some (vI (-5))) (toM ρ τ) else Q (some (vI ((ρ 51 28) + 1))) (toM (rup (rup ρ 62 (ρ 51 28) a1) 51 28 ((ρ 51 28) + 1)) τ)) else Q (some (vI (-2))) (toM ρ τ)) := by
  refine (g_aload_n d160_0 rfl rfl).trans ?_
  refine (g_iload_n d160_1 rfl).trans ?_
  refine (g_cV d160_2 k10_196 rfl rfl rfl).trans ?_
  show G 119 0 [some (.ref 51), some (vI a1)] [] (toM ρ τ) _ = _
  refine (m_isHouse hT.1 (by omega)).trans ?_
  show G 160 5 (some (.ref 51) :: some (vI a1) :: []) [vI (tv (0 ≤ a1 ∧ a1 ≤ ρ 51 0 - 1))] (toM ρ τ) _ = _
  have q1 := (show 2 ≤ ρ 51 0 ∧ ρ 51 0 ≤ 10 from hT.2 51 0)
  refine j_ifT_ne (tgt := 11) d160_5 (by decide) (fun q2 => ?_) (fun q2 => ?_)
  ·
    refine (g_aload_n d160_11 rfl rfl).trans ?_
    refine (j_getI (v := ρ 51 28) d160_12 f10_187 sh_51 (by decide) rfl rfl).trans ?_
    have q3 : 0 ≤ ρ 51 28 ∧ ρ 51 28 ≤ 12 := hT.2 51 28
    refine (j_bipush d160_15 (by decide)).trans ?_
    refine j_icmp_ne (tgt := 23) d160_17 (by decide) (by omega) (by omega) (fun q4 => ?_) (fun q4 => ?_)
    ·
      refine (j_bipush d160_20 (by decide)).trans ?_
      exact g_iret d160_22 rfl rfl
    ·
      refine (g_aload_n d160_23 rfl rfl).trans ?_
      refine (g_getR (q := 62) d160_24 f10_45 sh_51 (by decide) rfl).trans ?_
      refine (g_aload_n d160_27 rfl rfl).trans ?_
      refine (j_getI (v := ρ 51 28) d160_28 f10_187 sh_51 (by decide) rfl rfl).trans ?_
      refine (g_iload_n d160_31 rfl).trans ?_
      refine (j_iastoreB d160_32 sh_62 (by omega) (by decide)).trans ?_
      refine (g_aload_n d160_33 rfl rfl).trans ?_
      refine (g_dupR d160_34).trans ?_
      refine (j_getI (v := ρ 51 28) d160_35 f10_187 sh_51 (by decide) rfl (by simp [rup])).trans ?_
      refine (j_iconst d160_38).trans ?_
      refine (j_iadd d160_39).trans ?_
      refine (j_putI d160_40 f10_187 sh_51 (by decide) rfl).trans ?_
      refine (g_aload_n d160_43 rfl rfl).trans ?_
      refine (j_getI (v := (ρ 51 28) + 1) d160_44 f10_187 sh_51 (by decide) rfl (by simp [rup])).trans ?_
      exact g_iret d160_47 rfl rfl
  ·
    refine (j_bipush d160_8 (by decide)).trans ?_
    exact g_iret d160_10 rfl rfl
set_option maxRecDepth 10000 in
theorem s161 {Q : Option Value → mm → Prop} (ρ : rm) (τ : Int64)  (hT : TI ρ)  : G 161 0 (some (.ref 51) :: []) [] (toM ρ τ) Q = Q (some (vI (ρ 51 28))) (toM (rup ρ 51 28 0) τ) := by
  refine (g_aload_n d161_0 rfl rfl).trans ?_
  refine (j_getI (v := ρ 51 28) d161_1 f10_187 sh_51 (by decide) rfl rfl).trans ?_
  have q1 : 0 ≤ ρ 51 28 ∧ ρ 51 28 ≤ 12 := hT.2 51 28
  refine (g_istore_n d161_4 (by decide) rfl rfl).trans ?_
  refine (g_aload_n d161_5 rfl rfl).trans ?_
  refine (j_iconst d161_6).trans ?_
  refine (j_putI d161_7 f10_187 sh_51 (by decide) rfl).trans ?_
  refine (g_iload_n d161_10 rfl).trans ?_
  exact g_iret d161_11 rfl rfl
set_option maxRecDepth 10000 in
theorem s165 {Q : Option Value → mm → Prop} (ρ : rm) (τ : Int64) (a1 : Int) (a2 : Int) (a3 : Int) (a4 : Int) (hT : TI ρ) (h_a1 : SB a1) (h_a2 : SB a2) (h_a3 : SB a3) (h_a4 : SB a4) : G 165 0 (some (.ref 51) :: some (vI a1) :: some (vI a2) :: some (vI a3) :: some (vI a4) :: []) [] (toM ρ τ) Q = (if 0 ≤ a1 ∧ a1 ≤ ρ 51 0 - 1 then (if 0 ≤ a3 ∧ a3 ≤ ρ 51 0 - 1 then (if 0 ≤ a2 ∧ a2 ≤ 1439 then (if 0 ≤ a4 ∧ a4 ≤ 1439 then (if a1 = a3 then Q (some (vI (-3))) (toM ρ τ) else (if (ρ 51 30) = 10 then Q (some (vI (-5))) (toM ρ τ) else Q (some (vI ((ρ 51 30) + 1))) (toM (rup (rup (rup (rup (rup ρ 63 (4 * (ρ 51 30)) a1) 63 ((4 * (ρ 51 30)) + 1) a2) 63 ((4 * (ρ 51 30)) + 2) a3) 63 ((4 * (ρ 51 30)) + 3) a4) 51 30 ((ρ 51 30) + 1)) τ))) else Q (some (vI (-3))) (toM ρ τ)) else Q (some (vI (-3))) (toM ρ τ)) else Q (some (vI (-2))) (toM ρ τ)) else Q (some (vI (-2))) (toM ρ τ)) := by
  refine (g_aload_n d165_0 rfl rfl).trans ?_
  refine (g_iload_n d165_1 rfl).trans ?_
  refine (g_cV d165_2 k10_196 rfl rfl rfl).trans ?_
  show G 119 0 [some (.ref 51), some (vI a1)] [] (toM ρ τ) _ = _
  refine (m_isHouse hT.1 (by omega)).trans ?_
  show G 165 5 (some (.ref 51) :: some (vI a1) :: some (vI a2) :: some (vI a3) :: some (vI a4) :: []) [vI (tv (0 ≤ a1 ∧ a1 ≤ ρ 51 0 - 1))] (toM ρ τ) _ = _
  have q1 := (show 2 ≤ ρ 51 0 ∧ ρ 51 0 ≤ 10 from hT.2 51 0)
  refine j_ifT_eq (tgt := 16) d165_5 (by decide) (fun q2 => ?_) (fun q2 => ?_)
  ·
    refine (g_aload_n d165_8 rfl rfl).trans ?_
    refine (g_iload_n d165_9 rfl).trans ?_
    refine (g_cV d165_10 k10_196 rfl rfl rfl).trans ?_
    show G 119 0 [some (.ref 51), some (vI a3)] [] (toM ρ τ) _ = _
    refine (m_isHouse hT.1 (by omega)).trans ?_
    show G 165 13 (some (.ref 51) :: some (vI a1) :: some (vI a2) :: some (vI a3) :: some (vI a4) :: []) [vI (tv (0 ≤ a3 ∧ a3 ≤ ρ 51 0 - 1))] (toM ρ τ) _ = _
    have q3 := (show 2 ≤ ρ 51 0 ∧ ρ 51 0 ≤ 10 from hT.2 51 0)
    refine j_ifT_ne (tgt := 19) d165_13 (by decide) (fun q4 => ?_) (fun q4 => ?_)
    ·
      refine (g_iload_n d165_19 rfl).trans ?_
      refine (j_iconst d165_20).trans ?_
      refine (j_sipush d165_21 (by decide)).trans ?_
      refine (g_cS d165_24 k10_69 rfl rfl rfl).trans ?_
      show G 117 0 [some (vI a2), some (vI 0), some (vI 1439)] [] (toM ρ τ) _ = _
      refine (m_in hT.1 (by omega) (by omega) (by omega)).trans ?_
      show G 165 27 (some (.ref 51) :: some (vI a1) :: some (vI a2) :: some (vI a3) :: some (vI a4) :: []) [vI (tv (0 ≤ a2 ∧ a2 ≤ 1439))] (toM ρ τ) _ = _
      refine j_ifT_eq (tgt := 47) d165_27 (by decide) (fun q5 => ?_) (fun q5 => ?_)
      ·
        refine (g_iload d165_30 rfl).trans ?_
        refine (j_iconst d165_32).trans ?_
        refine (j_sipush d165_33 (by decide)).trans ?_
        refine (g_cS d165_36 k10_69 rfl rfl rfl).trans ?_
        show G 117 0 [some (vI a4), some (vI 0), some (vI 1439)] [] (toM ρ τ) _ = _
        refine (m_in hT.1 (by omega) (by omega) (by omega)).trans ?_
        show G 165 39 (some (.ref 51) :: some (vI a1) :: some (vI a2) :: some (vI a3) :: some (vI a4) :: []) [vI (tv (0 ≤ a4 ∧ a4 ≤ 1439))] (toM ρ τ) _ = _
        refine j_ifT_eq (tgt := 47) d165_39 (by decide) (fun q6 => ?_) (fun q6 => ?_)
        ·
          refine (g_iload_n d165_42 rfl).trans ?_
          refine (g_iload_n d165_43 rfl).trans ?_
          refine j_icmp_ne (tgt := 50) d165_44 (by decide) (by omega) (by omega) (fun q7 => ?_) (fun q7 => ?_)
          ·
            refine (j_bipush d165_47 (by decide)).trans ?_
            exact g_iret d165_49 rfl rfl
          ·
            refine (g_aload_n d165_50 rfl rfl).trans ?_
            refine (j_getI (v := ρ 51 30) d165_51 f10_190 sh_51 (by decide) rfl rfl).trans ?_
            have q8 : 0 ≤ ρ 51 30 ∧ ρ 51 30 ≤ 10 := hT.2 51 30
            refine (j_bipush d165_54 (by decide)).trans ?_
            refine j_icmp_ne (tgt := 62) d165_56 (by decide) (by omega) (by omega) (fun q9 => ?_) (fun q9 => ?_)
            ·
              refine (j_bipush d165_59 (by decide)).trans ?_
              exact g_iret d165_61 rfl rfl
            ·
              refine (g_aload_n d165_62 rfl rfl).trans ?_
              refine (g_getR (q := 63) d165_63 f10_48 sh_51 (by decide) rfl).trans ?_
              refine (j_iconst d165_66).trans ?_
              refine (g_aload_n d165_67 rfl rfl).trans ?_
              refine (j_getI (v := ρ 51 30) d165_68 f10_190 sh_51 (by decide) rfl rfl).trans ?_
              refine (j_imul d165_71).trans ?_
              refine (g_iload_n d165_72 rfl).trans ?_
              refine (j_iastoreB d165_73 sh_63 (by omega) (by decide)).trans ?_
              refine (g_aload_n d165_74 rfl rfl).trans ?_
              refine (g_getR (q := 63) d165_75 f10_48 sh_51 (by decide) rfl).trans ?_
              refine (j_iconst d165_78).trans ?_
              refine (g_aload_n d165_79 rfl rfl).trans ?_
              refine (j_getI (v := ρ 51 30) d165_80 f10_190 sh_51 (by decide) rfl (by simp [rup])).trans ?_
              refine (j_imul d165_83).trans ?_
              refine (j_iconst d165_84).trans ?_
              refine (j_iadd d165_85).trans ?_
              refine (g_iload_n d165_86 rfl).trans ?_
              refine (j_iastoreB d165_87 sh_63 (by omega) (by decide)).trans ?_
              refine (g_aload_n d165_88 rfl rfl).trans ?_
              refine (g_getR (q := 63) d165_89 f10_48 sh_51 (by decide) rfl).trans ?_
              refine (j_iconst d165_92).trans ?_
              refine (g_aload_n d165_93 rfl rfl).trans ?_
              refine (j_getI (v := ρ 51 30) d165_94 f10_190 sh_51 (by decide) rfl (by simp [rup])).trans ?_
              refine (j_imul d165_97).trans ?_
              refine (j_iconst d165_98).trans ?_
              refine (j_iadd d165_99).trans ?_
              refine (g_iload_n d165_100 rfl).trans ?_
              refine (j_iastoreB d165_101 sh_63 (by omega) (by decide)).trans ?_
              refine (g_aload_n d165_102 rfl rfl).trans ?_
              refine (g_getR (q := 63) d165_103 f10_48 sh_51 (by decide) rfl).trans ?_
              refine (j_iconst d165_106).trans ?_
              refine (g_aload_n d165_107 rfl rfl).trans ?_
              refine (j_getI (v := ρ 51 30) d165_108 f10_190 sh_51 (by decide) rfl (by simp [rup])).trans ?_
              refine (j_imul d165_111).trans ?_
              refine (j_iconst d165_112).trans ?_
              refine (j_iadd d165_113).trans ?_
              refine (g_iload d165_114 rfl).trans ?_
              refine (j_iastoreB d165_116 sh_63 (by omega) (by decide)).trans ?_
              refine (g_aload_n d165_117 rfl rfl).trans ?_
              refine (g_dupR d165_118).trans ?_
              refine (j_getI (v := ρ 51 30) d165_119 f10_190 sh_51 (by decide) rfl (by simp [rup])).trans ?_
              refine (j_iconst d165_122).trans ?_
              refine (j_iadd d165_123).trans ?_
              refine (j_putI d165_124 f10_190 sh_51 (by decide) rfl).trans ?_
              refine (g_aload_n d165_127 rfl rfl).trans ?_
              refine (j_getI (v := (ρ 51 30) + 1) d165_128 f10_190 sh_51 (by decide) rfl (by simp [rup])).trans ?_
              exact g_iret d165_131 rfl rfl
        ·
          refine (j_bipush d165_47 (by decide)).trans ?_
          exact g_iret d165_49 rfl rfl
      ·
        refine (j_bipush d165_47 (by decide)).trans ?_
        exact g_iret d165_49 rfl rfl
    ·
      refine (j_bipush d165_16 (by decide)).trans ?_
      exact g_iret d165_18 rfl rfl
  ·
    refine (j_bipush d165_16 (by decide)).trans ?_
    exact g_iret d165_18 rfl rfl
set_option maxRecDepth 10000 in
theorem s166 {Q : Option Value → mm → Prop} (ρ : rm) (τ : Int64)  (hT : TI ρ)  : G 166 0 (some (.ref 51) :: []) [] (toM ρ τ) Q = Q (some (vI (ρ 51 30))) (toM (rup ρ 51 30 0) τ) := by
  refine (g_aload_n d166_0 rfl rfl).trans ?_
  refine (j_getI (v := ρ 51 30) d166_1 f10_190 sh_51 (by decide) rfl rfl).trans ?_
  have q1 : 0 ≤ ρ 51 30 ∧ ρ 51 30 ≤ 10 := hT.2 51 30
  refine (g_istore_n d166_4 (by decide) rfl rfl).trans ?_
  refine (g_aload_n d166_5 rfl rfl).trans ?_
  refine (j_iconst d166_6).trans ?_
  refine (j_putI d166_7 f10_190 sh_51 (by decide) rfl).trans ?_
  refine (g_iload_n d166_10 rfl).trans ?_
  exact g_iret d166_11 rfl rfl
set_option maxRecDepth 10000 in
theorem s172 {Q : Option Value → mm → Prop} (ρ : rm) (τ : Int64) (a1 : Int) (a2 : Int) (a3 : Int) (hT : TI ρ) (h_a1 : SB a1) (h_a2 : SB a2) (h_a3 : SB a3) : G 172 0 (some (.ref 51) :: some (vI a1) :: some (vI a2) :: some (vI a3) :: []) [] (toM ρ τ) Q = (if 0 ≤ a1 ∧ a1 ≤ 5 then (if 0 ≤ a2 ∧ a2 ≤ ρ 51 0 - 1 then (if 0 ≤ a3 ∧ a3 ≤ 1439 then (if (ρ 51 32) = 12 then Q (some (vI (-5))) (toM ρ τ) else Q (some (vI ((ρ 51 32) + 1))) (toM (rup (rup (rup (rup ρ 64 (3 * (ρ 51 32)) a1) 64 ((3 * (ρ 51 32)) + 1) a2) 64 ((3 * (ρ 51 32)) + 2) a3) 51 32 ((ρ 51 32) + 1)) τ)) else Q (some (vI (-3))) (toM ρ τ)) else Q (some (vI (-2))) (toM ρ τ)) else Q (some (vI (-2))) (toM ρ τ)) := by
  refine (g_iload_n d172_0 rfl).trans ?_
  refine (j_iconst d172_1).trans ?_
  refine (j_iconst d172_2).trans ?_
  refine (g_cS d172_3 k10_69 rfl rfl rfl).trans ?_
  show G 117 0 [some (vI a1), some (vI 0), some (vI 5)] [] (toM ρ τ) _ = _
  refine (m_in hT.1 (by omega) (by omega) (by omega)).trans ?_
  show G 172 6 (some (.ref 51) :: some (vI a1) :: some (vI a2) :: some (vI a3) :: []) [vI (tv (0 ≤ a1 ∧ a1 ≤ 5))] (toM ρ τ) _ = _
  refine j_ifT_eq (tgt := 17) d172_6 (by decide) (fun q1 => ?_) (fun q1 => ?_)
  ·
    refine (g_aload_n d172_9 rfl rfl).trans ?_
    refine (g_iload_n d172_10 rfl).trans ?_
    refine (g_cV d172_11 k10_196 rfl rfl rfl).trans ?_
    show G 119 0 [some (.ref 51), some (vI a2)] [] (toM ρ τ) _ = _
    refine (m_isHouse hT.1 (by omega)).trans ?_
    show G 172 14 (some (.ref 51) :: some (vI a1) :: some (vI a2) :: some (vI a3) :: []) [vI (tv (0 ≤ a2 ∧ a2 ≤ ρ 51 0 - 1))] (toM ρ τ) _ = _
    have q2 := (show 2 ≤ ρ 51 0 ∧ ρ 51 0 ≤ 10 from hT.2 51 0)
    refine j_ifT_ne (tgt := 20) d172_14 (by decide) (fun q3 => ?_) (fun q3 => ?_)
    ·
      refine (g_iload_n d172_20 rfl).trans ?_
      refine (j_iconst d172_21).trans ?_
      refine (j_sipush d172_22 (by decide)).trans ?_
      refine (g_cS d172_25 k10_69 rfl rfl rfl).trans ?_
      show G 117 0 [some (vI a3), some (vI 0), some (vI 1439)] [] (toM ρ τ) _ = _
      refine (m_in hT.1 (by omega) (by omega) (by omega)).trans ?_
      show G 172 28 (some (.ref 51) :: some (vI a1) :: some (vI a2) :: some (vI a3) :: []) [vI (tv (0 ≤ a3 ∧ a3 ≤ 1439))] (toM ρ τ) _ = _
      refine j_ifT_ne (tgt := 34) d172_28 (by decide) (fun q4 => ?_) (fun q4 => ?_)
      ·
        refine (g_aload_n d172_34 rfl rfl).trans ?_
        refine (j_getI (v := ρ 51 32) d172_35 f10_193 sh_51 (by decide) rfl rfl).trans ?_
        have q5 : 0 ≤ ρ 51 32 ∧ ρ 51 32 ≤ 12 := hT.2 51 32
        refine (j_bipush d172_38 (by decide)).trans ?_
        refine j_icmp_ne (tgt := 46) d172_40 (by decide) (by omega) (by omega) (fun q6 => ?_) (fun q6 => ?_)
        ·
          refine (j_bipush d172_43 (by decide)).trans ?_
          exact g_iret d172_45 rfl rfl
        ·
          refine (g_aload_n d172_46 rfl rfl).trans ?_
          refine (g_getR (q := 64) d172_47 f10_51 sh_51 (by decide) rfl).trans ?_
          refine (j_iconst d172_50).trans ?_
          refine (g_aload_n d172_51 rfl rfl).trans ?_
          refine (j_getI (v := ρ 51 32) d172_52 f10_193 sh_51 (by decide) rfl rfl).trans ?_
          refine (j_imul d172_55).trans ?_
          refine (g_iload_n d172_56 rfl).trans ?_
          refine (j_iastoreB d172_57 sh_64 (by omega) (by decide)).trans ?_
          refine (g_aload_n d172_58 rfl rfl).trans ?_
          refine (g_getR (q := 64) d172_59 f10_51 sh_51 (by decide) rfl).trans ?_
          refine (j_iconst d172_62).trans ?_
          refine (g_aload_n d172_63 rfl rfl).trans ?_
          refine (j_getI (v := ρ 51 32) d172_64 f10_193 sh_51 (by decide) rfl (by simp [rup])).trans ?_
          refine (j_imul d172_67).trans ?_
          refine (j_iconst d172_68).trans ?_
          refine (j_iadd d172_69).trans ?_
          refine (g_iload_n d172_70 rfl).trans ?_
          refine (j_iastoreB d172_71 sh_64 (by omega) (by decide)).trans ?_
          refine (g_aload_n d172_72 rfl rfl).trans ?_
          refine (g_getR (q := 64) d172_73 f10_51 sh_51 (by decide) rfl).trans ?_
          refine (j_iconst d172_76).trans ?_
          refine (g_aload_n d172_77 rfl rfl).trans ?_
          refine (j_getI (v := ρ 51 32) d172_78 f10_193 sh_51 (by decide) rfl (by simp [rup])).trans ?_
          refine (j_imul d172_81).trans ?_
          refine (j_iconst d172_82).trans ?_
          refine (j_iadd d172_83).trans ?_
          refine (g_iload_n d172_84 rfl).trans ?_
          refine (j_iastoreB d172_85 sh_64 (by omega) (by decide)).trans ?_
          refine (g_aload_n d172_86 rfl rfl).trans ?_
          refine (g_dupR d172_87).trans ?_
          refine (j_getI (v := ρ 51 32) d172_88 f10_193 sh_51 (by decide) rfl (by simp [rup])).trans ?_
          refine (j_iconst d172_91).trans ?_
          refine (j_iadd d172_92).trans ?_
          refine (j_putI d172_93 f10_193 sh_51 (by decide) rfl).trans ?_
          refine (g_aload_n d172_96 rfl rfl).trans ?_
          refine (j_getI (v := (ρ 51 32) + 1) d172_97 f10_193 sh_51 (by decide) rfl (by simp [rup])).trans ?_
          exact g_iret d172_100 rfl rfl
      ·
        refine (j_bipush d172_31 (by decide)).trans ?_
        exact g_iret d172_33 rfl rfl
    ·
      refine (j_bipush d172_17 (by decide)).trans ?_
      exact g_iret d172_19 rfl rfl
  ·
    refine (j_bipush d172_17 (by decide)).trans ?_
    exact g_iret d172_19 rfl rfl
set_option maxRecDepth 10000 in
theorem s173 {Q : Option Value → mm → Prop} (ρ : rm) (τ : Int64)  (hT : TI ρ)  : G 173 0 (some (.ref 51) :: []) [] (toM ρ τ) Q = Q (some (vI (ρ 51 32))) (toM (rup ρ 51 32 0) τ) := by
  refine (g_aload_n d173_0 rfl rfl).trans ?_
  refine (j_getI (v := ρ 51 32) d173_1 f10_193 sh_51 (by decide) rfl rfl).trans ?_
  have q1 : 0 ≤ ρ 51 32 ∧ ρ 51 32 ≤ 12 := hT.2 51 32
  refine (g_istore_n d173_4 (by decide) rfl rfl).trans ?_
  refine (g_aload_n d173_5 rfl rfl).trans ?_
  refine (j_iconst d173_6).trans ?_
  refine (j_putI d173_7 f10_193 sh_51 (by decide) rfl).trans ?_
  refine (g_iload_n d173_10 rfl).trans ?_
  exact g_iret d173_11 rfl rfl
set_option maxRecDepth 10000 in
theorem s179 {Q : Option Value → mm → Prop} (ρ : rm) (τ : Int64) (a1 : Int) (hT : TI ρ) (h_a1 : SB a1) : G 179 0 (some (.ref 51) :: some (vI a1) :: []) [] (toM ρ τ) Q = (if a1 = 0 then Q (some (vI (ρ 51 0))) (toM ρ τ) else (if a1 = 1 then Q (some (vI (ρ 51 3))) (toM ρ τ) else (if a1 = 2 then Q (some (vI (ρ 51 5))) (toM ρ τ) else (if a1 = 3 then Q (some (vI (ρ 51 7))) (toM ρ τ) else (if a1 = 4 then Q (some (vI (ρ 51 28))) (toM ρ τ) else (if a1 = 5 then Q (some (vI (ρ 51 30))) (toM ρ τ) else (if a1 = 6 then Q (some (vI (ρ 51 32))) (toM ρ τ) else (if a1 = 7 then Q (some (vI (ρ 51 10))) (toM ρ τ) else Q (some (vI (-3))) (toM ρ τ))))))))) := by
  refine (g_iload_n d179_0 rfl).trans ?_
  refine sw_case (c := 0) (fun q1 => ?_) (fun q1 => ?_)
  ·
    refine (g_tableIn (off := 47) (tgt := 48) d179_1 (by rw [iI_toInt (by omega)]; omega) (by rw [iI_toInt (by omega), q1]; rfl) (by decide)).trans ?_
    refine (g_aload_n d179_48 rfl rfl).trans ?_
    refine (j_getI (v := ρ 51 0) d179_49 f10_7 sh_51 (by decide) rfl rfl).trans ?_
    have q2 : 2 ≤ ρ 51 0 ∧ ρ 51 0 ≤ 10 := hT.2 51 0
    exact g_iret d179_52 rfl rfl
  ·
    refine sw_case (c := 1) (fun q3 => ?_) (fun q3 => ?_)
    ·
      refine (g_tableIn (off := 52) (tgt := 53) d179_1 (by rw [iI_toInt (by omega)]; omega) (by rw [iI_toInt (by omega), q3]; rfl) (by decide)).trans ?_
      refine (g_aload_n d179_53 rfl rfl).trans ?_
      refine (j_getI (v := ρ 51 3) d179_54 f10_76 sh_51 (by decide) rfl rfl).trans ?_
      have q4 : 0 ≤ ρ 51 3 ∧ ρ 51 3 ≤ 8 := hT.2 51 3
      exact g_iret d179_57 rfl rfl
    ·
      refine sw_case (c := 2) (fun q5 => ?_) (fun q5 => ?_)
      ·
        refine (g_tableIn (off := 57) (tgt := 58) d179_1 (by rw [iI_toInt (by omega)]; omega) (by rw [iI_toInt (by omega), q5]; rfl) (by decide)).trans ?_
        refine (g_aload_n d179_58 rfl rfl).trans ?_
        refine (j_getI (v := ρ 51 5) d179_59 f10_73 sh_51 (by decide) rfl rfl).trans ?_
        have q6 : 0 ≤ ρ 51 5 ∧ ρ 51 5 ≤ 10 := hT.2 51 5
        exact g_iret d179_62 rfl rfl
      ·
        refine sw_case (c := 3) (fun q7 => ?_) (fun q7 => ?_)
        ·
          refine (g_tableIn (off := 62) (tgt := 63) d179_1 (by rw [iI_toInt (by omega)]; omega) (by rw [iI_toInt (by omega), q7]; rfl) (by decide)).trans ?_
          refine (g_aload_n d179_63 rfl rfl).trans ?_
          refine (j_getI (v := ρ 51 7) d179_64 f10_79 sh_51 (by decide) rfl rfl).trans ?_
          have q8 : 0 ≤ ρ 51 7 ∧ ρ 51 7 ≤ 6 := hT.2 51 7
          exact g_iret d179_67 rfl rfl
        ·
          refine sw_case (c := 4) (fun q9 => ?_) (fun q9 => ?_)
          ·
            refine (g_tableIn (off := 67) (tgt := 68) d179_1 (by rw [iI_toInt (by omega)]; omega) (by rw [iI_toInt (by omega), q9]; rfl) (by decide)).trans ?_
            refine (g_aload_n d179_68 rfl rfl).trans ?_
            refine (j_getI (v := ρ 51 28) d179_69 f10_187 sh_51 (by decide) rfl rfl).trans ?_
            have q10 : 0 ≤ ρ 51 28 ∧ ρ 51 28 ≤ 12 := hT.2 51 28
            exact g_iret d179_72 rfl rfl
          ·
            refine sw_case (c := 5) (fun q11 => ?_) (fun q11 => ?_)
            ·
              refine (g_tableIn (off := 72) (tgt := 73) d179_1 (by rw [iI_toInt (by omega)]; omega) (by rw [iI_toInt (by omega), q11]; rfl) (by decide)).trans ?_
              refine (g_aload_n d179_73 rfl rfl).trans ?_
              refine (j_getI (v := ρ 51 30) d179_74 f10_190 sh_51 (by decide) rfl rfl).trans ?_
              have q12 : 0 ≤ ρ 51 30 ∧ ρ 51 30 ≤ 10 := hT.2 51 30
              exact g_iret d179_77 rfl rfl
            ·
              refine sw_case (c := 6) (fun q13 => ?_) (fun q13 => ?_)
              ·
                refine (g_tableIn (off := 77) (tgt := 78) d179_1 (by rw [iI_toInt (by omega)]; omega) (by rw [iI_toInt (by omega), q13]; rfl) (by decide)).trans ?_
                refine (g_aload_n d179_78 rfl rfl).trans ?_
                refine (j_getI (v := ρ 51 32) d179_79 f10_193 sh_51 (by decide) rfl rfl).trans ?_
                have q14 : 0 ≤ ρ 51 32 ∧ ρ 51 32 ≤ 12 := hT.2 51 32
                exact g_iret d179_82 rfl rfl
              ·
                refine sw_case (c := 7) (fun q15 => ?_) (fun q15 => ?_)
                ·
                  refine (g_tableIn (off := 82) (tgt := 83) d179_1 (by rw [iI_toInt (by omega)]; omega) (by rw [iI_toInt (by omega), q15]; rfl) (by decide)).trans ?_
                  refine (g_aload_n d179_83 rfl rfl).trans ?_
                  refine (j_getI (v := ρ 51 10) d179_84 f10_83 sh_51 (by decide) rfl rfl).trans ?_
                  have q16 : 0 ≤ ρ 51 10 ∧ ρ 51 10 ≤ 200 := hT.2 51 10
                  exact g_iret d179_87 rfl rfl
                ·
                  refine (g_tableOut (tgt := 88) d179_1 (by rw [iI_toInt (by omega)]; omega) (by decide)).trans ?_
                  refine (j_bipush d179_88 (by decide)).trans ?_
                  exact g_iret d179_90 rfl rfl
