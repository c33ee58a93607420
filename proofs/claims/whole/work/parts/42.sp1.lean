/-! small methods, second pass (wip/gen/run_spec1.py) -/
theorem iab_bd (a : Int) : 0 ≤ iab a ∧ (iab a = a ∨ iab a = -a) := by unfold iab; split <;> omega
theorem span_bd {ρ : rm} (h : TI ρ) (a b : Int) (hab : (0 ≤ a ∧ a < 10) ∧ 0 ≤ b ∧ b < 10) : -8991 ≤ ρ (17 + a.toNat) b - (ρ 10 b - ρ 10 a) ∧ ρ (17 + a.toNat) b - (ρ 10 b - ρ 10 a) ≤ 1008991 := by
  have h1 := TI.row h (k := 17 + a.toNat) (by omega) b
  have h2 : 0 ≤ ρ 10 a ∧ ρ 10 a ≤ 8991 := h.2 10 a
  have h3 : 0 ≤ ρ 10 b ∧ ρ 10 b ≤ 8991 := h.2 10 b
  omega
theorem oS_rg {ρ : rm} (hT : TI ρ) {h : Int} (hh : 0 ≤ h ∧ h < 10) : 0 ≤ oS ρ h ∧ oS ρ h ≤ 8991 := by
  have key : ∀ (d : Nat) (k : Int), 0 ≤ sumR (ρ 52) k d ∧ sumR (ρ 52) k d ≤ 999 * d := by
    intro d
    induction d with
    | zero => intro k; simp [sumR]
    | succ d ih =>
      intro k
      have h1 := ih (k + 1)
      have h2 : 0 ≤ ρ 52 k ∧ ρ 52 k ≤ 999 := hT.2 52 k
      simp only [sumR]
      omega
  have := key h.toNat 1
  unfold oS
  omega
set_option maxRecDepth 10000 in
theorem s140 {Q : Option Value → mm → Prop} (ρ : rm) (τ : Int64) (a1 : Int) (a2 : Int) (hT : TI ρ) (h_a1 : 0 ≤ a1 ∧ a1 < 10) (h_a2 : -5000000 ≤ a2 ∧ a2 ≤ 5000000) : G 140 0 (some (.ref 51) :: some (vI a1) :: some (vI a2) :: []) [] (toM ρ τ) Q = Q (some (vI (Int.tdiv ((a2 - (oS ρ a1)) + 144000) 1440))) (toM ρ τ) := by
  refine (g_iload_n d140_0 rfl).trans ?_
  refine (g_aload_n d140_1 rfl rfl).trans ?_
  refine (g_iload_n d140_2 rfl).trans ?_
  refine (g_cV d140_3 k10_199 rfl rfl rfl).trans ?_
  show G 137 0 [some (.ref 51), some (vI a1)] [] (toM ρ τ) _ = _
  refine (m_offOf hT.1 (by omega)).trans ?_
  show G 140 6 (some (.ref 51) :: some (vI a1) :: some (vI a2) :: []) [vI (oS ρ a1), vI a2] (toM ρ τ) _ = _
  have q1 := oS_rg hT (h := a1) (by omega)
  refine (j_isub d140_6).trans ?_
  refine (j_ldc (n := 144000) d140_7 cs10_203 (by decide)).trans ?_
  refine (j_iadd d140_9).trans ?_
  refine (j_sipush d140_10 (by decide)).trans ?_
  refine (j_idiv d140_13 (by omega) (by omega) (by omega)).trans ?_
  have q2 := tdiv_bd ((a2 - (oS ρ a1)) + 144000) (b := 1440) (by omega)
  exact g_iret d140_14 rfl rfl
set_option maxRecDepth 10000 in
theorem s141 {Q : Option Value → mm → Prop} (ρ : rm) (τ : Int64) (a1 : Int) (a2 : Int) (hT : TI ρ) (h_a1 : 0 ≤ a1 ∧ a1 < 10) (h_a2 : -5000000 ≤ a2 ∧ a2 ≤ 5000000) : G 141 0 (some (.ref 51) :: some (vI a1) :: some (vI a2) :: []) [] (toM ρ τ) Q = Q (some (vI (Int.tmod ((a2 - (oS ρ a1)) + 144000) 1440))) (toM ρ τ) := by
  refine (g_iload_n d141_0 rfl).trans ?_
  refine (g_aload_n d141_1 rfl rfl).trans ?_
  refine (g_iload_n d141_2 rfl).trans ?_
  refine (g_cV d141_3 k10_199 rfl rfl rfl).trans ?_
  show G 137 0 [some (.ref 51), some (vI a1)] [] (toM ρ τ) _ = _
  refine (m_offOf hT.1 (by omega)).trans ?_
  show G 141 6 (some (.ref 51) :: some (vI a1) :: some (vI a2) :: []) [vI (oS ρ a1), vI a2] (toM ρ τ) _ = _
  have q1 := oS_rg hT (h := a1) (by omega)
  refine (j_isub d141_6).trans ?_
  refine (j_ldc (n := 144000) d141_7 cs10_203 (by decide)).trans ?_
  refine (j_iadd d141_9).trans ?_
  refine (j_sipush d141_10 (by decide)).trans ?_
  refine (j_irem d141_13 (by omega) (by omega) (by omega)).trans ?_
  have q2 := tmod_bd ((a2 - (oS ρ a1)) + 144000) (b := 1440) (by omega)
  exact g_iret d141_14 rfl rfl
set_option maxRecDepth 10000 in
theorem s143 {Q : Option Value → mm → Prop} (ρ : rm) (τ : Int64) (a1 : Int) (a2 : Int) (hT : TI ρ) (h_a1 : 0 ≤ a1 ∧ a1 < 10) (h_a2 : 0 ≤ a2 ∧ a2 < 10) : G 143 0 (some (.ref 51) :: some (vI a1) :: some (vI a2) :: []) [] (toM ρ τ) Q = Q (some (vI (((ρ 57 ((10 * a1) + a2)) - (oS ρ a2)) + (oS ρ a1)))) (toM ρ τ) := by
  refine (g_aload_n d143_0 rfl rfl).trans ?_
  refine (g_getR (q := 57) d143_1 f10_29 sh_51 (by decide) rfl).trans ?_
  refine (j_bipush d143_4 (by decide)).trans ?_
  refine (g_iload_n d143_6 rfl).trans ?_
  refine (j_imul d143_7).trans ?_
  refine (g_iload_n d143_8 rfl).trans ?_
  refine (j_iadd d143_9).trans ?_
  refine (j_ialoadB (v := ρ 57 ((10 * a1) + a2)) d143_10 sh_57 (by omega) (by decide) rfl).trans ?_
  have q1 : 0 ≤ ρ 57 ((10 * a1) + a2) ∧ ρ 57 ((10 * a1) + a2) ≤ 100000 := hT.2 57 ((10 * a1) + a2)
  refine (g_aload_n d143_11 rfl rfl).trans ?_
  refine (g_iload_n d143_12 rfl).trans ?_
  refine (g_cV d143_13 k10_199 rfl rfl rfl).trans ?_
  show G 137 0 [some (.ref 51), some (vI a2)] [] (toM ρ τ) _ = _
  refine (m_offOf hT.1 (by omega)).trans ?_
  show G 143 16 (some (.ref 51) :: some (vI a1) :: some (vI a2) :: []) [vI (oS ρ a2), vI (ρ 57 ((10 * a1) + a2))] (toM ρ τ) _ = _
  have q2 := oS_rg hT (h := a2) (by omega)
  refine (j_isub d143_16).trans ?_
  refine (g_aload_n d143_17 rfl rfl).trans ?_
  refine (g_iload_n d143_18 rfl).trans ?_
  refine (g_cV d143_19 k10_199 rfl rfl rfl).trans ?_
  show G 137 0 [some (.ref 51), some (vI a1)] [] (toM ρ τ) _ = _
  refine (m_offOf hT.1 (by omega)).trans ?_
  show G 143 22 (some (.ref 51) :: some (vI a1) :: some (vI a2) :: []) [vI (oS ρ a1), vI ((ρ 57 ((10 * a1) + a2)) - (oS ρ a2))] (toM ρ τ) _ = _
  have q3 := oS_rg hT (h := a1) (by omega)
  refine (j_iadd d143_22).trans ?_
  exact g_iret d143_23 rfl rfl
set_option maxRecDepth 10000 in
theorem s146 {Q : Option Value → mm → Prop} (ρ : rm) (τ : Int64) (a1 : Int) (hT : TI ρ) (h_a1 : 0 ≤ a1 ∧ a1 < 10) : G 146 0 (some (.ref 51) :: some (vI a1) :: []) [] (toM ρ τ) Q = Q (some (vI ((ρ 55 ((3 * a1) + 1)) + (oS ρ (ρ 55 (3 * a1)))))) (toM ρ τ) := by
  refine (g_aload_n d146_0 rfl rfl).trans ?_
  refine (g_getR (q := 55) d146_1 f10_23 sh_51 (by decide) rfl).trans ?_
  refine (j_iconst d146_4).trans ?_
  refine (g_iload_n d146_5 rfl).trans ?_
  refine (j_imul d146_6).trans ?_
  refine (j_iconst d146_7).trans ?_
  refine (j_iadd d146_8).trans ?_
  refine (j_ialoadB (v := ρ 55 ((3 * a1) + 1)) d146_9 sh_55 (by omega) (by decide) rfl).trans ?_
  have q1 := hT.1 55 ((3 * a1) + 1) (by decide)
  refine (g_aload_n d146_10 rfl rfl).trans ?_
  refine (g_aload_n d146_11 rfl rfl).trans ?_
  refine (g_getR (q := 55) d146_12 f10_23 sh_51 (by decide) rfl).trans ?_
  refine (j_iconst d146_15).trans ?_
  refine (g_iload_n d146_16 rfl).trans ?_
  refine (j_imul d146_17).trans ?_
  refine (j_ialoadB (v := ρ 55 (3 * a1)) d146_18 sh_55 (by omega) (by decide) rfl).trans ?_
  have q2 := T55a hT a1
  refine (g_cV d146_19 k10_199 rfl rfl rfl).trans ?_
  show G 137 0 [some (.ref 51), some (vI (ρ 55 (3 * a1)))] [] (toM ρ τ) _ = _
  refine (m_offOf hT.1 (by omega)).trans ?_
  show G 146 22 (some (.ref 51) :: some (vI a1) :: []) [vI (oS ρ (ρ 55 (3 * a1))), vI (ρ 55 ((3 * a1) + 1))] (toM ρ τ) _ = _
  have q3 := oS_rg hT (h := ρ 55 (3 * a1)) (by omega)
  refine (j_iadd d146_22).trans ?_
  exact g_iret d146_23 rfl rfl
set_option maxRecDepth 10000 in
theorem s12 {Q : Option Value → mm → Prop} (ρ : rm) (τ : Int64) (a1 : Int) (hT : TI ρ) (h_a1 : 0 ≤ a1 ∧ a1 < 10) : G 12 0 (some (.ref 2) :: some (vI a1) :: []) [] (toM ρ τ) Q = Q (some (vI (ρ 10 (ρ 27 a1) + (ρ 28 a1)))) (toM ρ τ) := by
  refine (g_aload_n d12_0 rfl rfl).trans ?_
  refine (g_getR (q := 1) d12_1 f1_27 sh_2 (by decide) rfl).trans ?_
  refine (g_aload_n d12_4 rfl rfl).trans ?_
  refine (g_getR (q := 27) d12_5 f1_9 sh_2 (by decide) rfl).trans ?_
  refine (g_iload_n d12_8 rfl).trans ?_
  refine (j_ialoadB (v := ρ 27 a1) d12_9 sh_27 (by omega) (by decide) rfl).trans ?_
  have q1 : 0 ≤ ρ 27 a1 ∧ ρ 27 a1 ≤ 9 := hT.2 27 a1
  refine (g_aload_n d12_10 rfl rfl).trans ?_
  refine (g_getR (q := 28) d12_11 f1_15 sh_2 (by decide) rfl).trans ?_
  refine (g_iload_n d12_14 rfl).trans ?_
  refine (j_ialoadB (v := ρ 28 a1) d12_15 sh_28 (by omega) (by decide) rfl).trans ?_
  have q2 : 0 ≤ ρ 28 a1 ∧ ρ 28 a1 ≤ 1439 := hT.2 28 a1
  refine (g_cV d12_16 k1_35 rfl rfl rfl).trans ?_
  show G 36 0 [some (.ref 1), some (vI (ρ 27 a1)), some (vI (ρ 28 a1))] [] (toM ρ τ) _ = _
  refine (c_true hT.1 (by omega) (by omega)).trans ?_
  show G 12 19 (some (.ref 2) :: some (vI a1) :: []) [vI (ρ 10 (ρ 27 a1) + (ρ 28 a1))] (toM ρ τ) _ = _
  have q3 := hT.1 10 (ρ 27 a1) (by decide)
  exact g_iret d12_19 rfl rfl
set_option maxRecDepth 10000 in
theorem s11 {Q : Option Value → mm → Prop} (ρ : rm) (τ : Int64) (a1 : Int) (hT : TI ρ) (h_a1 : SB a1) : G 11 0 (some (.ref 2) :: some (vI a1) :: []) [] (toM ρ τ) Q = (if a1 < 0 then Q (some (vI 0)) (toM ρ τ) else (if (ρ 2 4) ≤ a1 then Q (some (vI 0)) (toM ρ τ) else Q (some (vI 1)) (toM ρ τ))) := by
  refine (g_iload_n d11_0 rfl).trans ?_
  refine j_if_lt (tgt := 16) d11_1 (by decide) (by omega) (fun q1 => ?_) (fun q1 => ?_)
  ·
    refine (j_iconst d11_16).trans ?_
    exact g_iret d11_17 rfl rfl
  ·
    refine (g_iload_n d11_4 rfl).trans ?_
    refine (g_aload_n d11_5 rfl rfl).trans ?_
    refine (j_getI (v := ρ 2 4) d11_6 f1_31 sh_2 (by decide) rfl rfl).trans ?_
    have q2 : 0 ≤ ρ 2 4 ∧ ρ 2 4 ≤ 10 := hT.2 2 4
    refine j_icmp_ge (tgt := 16) d11_9 (by decide) (by omega) (by omega) (fun q3 => ?_) (fun q3 => ?_)
    ·
      refine (j_iconst d11_16).trans ?_
      exact g_iret d11_17 rfl rfl
    ·
      refine (j_iconst d11_12).trans ?_
      refine (g_goto (tgt := 17) d11_13 (by decide)).trans ?_
      exact g_iret d11_17 rfl rfl
set_option maxRecDepth 10000 in
theorem s114 {Q : Option Value → mm → Prop} (ρ : rm) (τ : Int64) (a1 : Int) (hT : TI ρ) (h_a1 : SB a1) : G 114 0 (some (vI a1) :: []) [] (toM ρ τ) Q = (if a1 < 0 then Q (some (vI 0)) (toM ρ τ) else (if 1440 ≤ a1 then Q (some (vI 0)) (toM ρ τ) else Q (some (vI 1)) (toM ρ τ))) := by
  refine (g_iload_n d114_0 rfl).trans ?_
  refine j_if_lt (tgt := 15) d114_1 (by decide) (by omega) (fun q1 => ?_) (fun q1 => ?_)
  ·
    refine (j_iconst d114_15).trans ?_
    exact g_iret d114_16 rfl rfl
  ·
    refine (g_iload_n d114_4 rfl).trans ?_
    refine (j_sipush d114_5 (by decide)).trans ?_
    refine j_icmp_ge (tgt := 15) d114_8 (by decide) (by omega) (by omega) (fun q2 => ?_) (fun q2 => ?_)
    ·
      refine (j_iconst d114_15).trans ?_
      exact g_iret d114_16 rfl rfl
    ·
      refine (j_iconst d114_11).trans ?_
      refine (g_goto (tgt := 16) d114_12 (by decide)).trans ?_
      exact g_iret d114_16 rfl rfl
set_option maxRecDepth 10000 in
theorem s126 {Q : Option Value → mm → Prop} (ρ : rm) (τ : Int64)  (hT : TI ρ)  : G 126 0 (some (.ref 51) :: []) [] (toM ρ τ) Q = Q (some (vI 0)) (toM (rup ρ 51 17 (ρ 51 13)) τ) := by
  refine (g_aload_n d126_0 rfl rfl).trans ?_
  refine (g_aload_n d126_1 rfl rfl).trans ?_
  refine (j_getI (v := ρ 51 13) d126_2 f10_91 sh_51 (by decide) rfl rfl).trans ?_
  have q1 : 0 ≤ ρ 51 13 ∧ ρ 51 13 ≤ 200 := hT.2 51 13
  refine (j_putI d126_5 f10_116 sh_51 (by decide) rfl).trans ?_
  refine (j_iconst d126_8).trans ?_
  exact g_iret d126_9 rfl rfl
theorem c_dhas {Q : Option Value → mm → Prop} {ρ : rm} {τ : Int64} (hT : TI ρ) {h : Int} (hs : SB h) : G 11 0 [some (.ref 2), some (vI h)] [] (toM ρ τ) Q = Q (some (vI (tv (0 ≤ h ∧ h < ρ 2 4)))) (toM ρ τ) := by
  rw [s11 ρ τ h hT hs]
  split
  · rw [tv_f (by omega)]
  · split
    · rw [tv_f (by omega)]
    · rw [tv_t (by omega)]
theorem c_isClock {Q : Option Value → mm → Prop} {ρ : rm} {τ : Int64} (hT : TI ρ) {h : Int} (hs : SB h) : G 114 0 [some (vI h)] [] (toM ρ τ) Q = Q (some (vI (tv (0 ≤ h ∧ h < 1440)))) (toM ρ τ) := by
  rw [s114 ρ τ h hT hs]
  split
  · rw [tv_f (by omega)]
  · split
    · rw [tv_f (by omega)]
    · rw [tv_t (by omega)]
