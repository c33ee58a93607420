/-! calls without loops that change the memory: both sides agree (wip/gen/gen_ag2.py) -/
section AG3
theorem ag_erase : Agree 82 124 [] := by
  intro ρ τ h
  have hT := h.1
  have n1 := h.n
  have hn := h.nb
  have e1 : ρ 4 1 = ρ 51 10 := h.T.1
  have q1 : 0 ≤ ρ 4 1 ∧ ρ 4 1 ≤ 200 := hT.2 4 1
  have T1 : TI (rup ρ 4 1 0) := TI_up (hT) 4 1 (x := 0) (show 0 ≤ 0 ∧ 0 ≤ 200 by omega) (by omega)
  have T2 : TI (rup (rup ρ 4 1 0) 51 10 0) := TI_up (T1) 51 10 (x := 0) (show 0 ≤ 0 ∧ 0 ≤ 200 by omega) (by omega)
  rw [s82 ρ τ hT]
  refine ⟨_, ⟨by omega, by omega⟩, rfl, ?_⟩
  rw [s124 _ τ T1]
  refine ⟨vI_eq (by simp (disch := omega) only [rup_fn]; exact e1.symm), _, _, rfl, ?_⟩
  exact ⟨T2, (by have z := h.2.1; unfold RH at z ⊢; simpa (disch := omega) only [rup_fn, rup_sl] using z), (by have z := h.D; unfold RD at z ⊢; simpa (disch := omega) only [rup_fn, rup_sl] using z), (by have z := h.O; unfold RO at z ⊢; simpa (disch := omega) only [rup_fn, rup_sl] using z), (by have z := h.S; unfold RS at z ⊢; simpa (disch := omega) only [rup_fn, rup_sl] using z), (by have z := h.T; unfold RT at z ⊢; simp (disch := omega) only [rup_fn, rup_sl, rup_same]; exact ⟨rfl, fun k h1 h2 => absurd h2 (by omega)⟩), (by have z := h.W; unfold RW at z ⊢; simpa (disch := omega) only [rup_fn, rup_sl] using z), (by have z := h.K; unfold RK at z ⊢; simpa (disch := omega) only [rup_fn, rup_sl] using z), (by have z := h.B; unfold RB at z ⊢; simpa (disch := omega) only [rup_fn, rup_sl] using z), (by have z := h.G; unfold RG at z ⊢; simpa (disch := omega) only [rup_fn, rup_sl] using z)⟩
theorem ag_rest : Agree 100 161 [] := by
  intro ρ τ h
  have hT := h.1
  have n1 := h.n
  have hn := h.nb
  have e1 : ρ 7 0 = ρ 51 28 := h.K.1
  have q1 : 0 ≤ ρ 7 0 ∧ ρ 7 0 ≤ 12 := hT.2 7 0
  have T1 : TI (rup ρ 7 0 0) := TI_up (hT) 7 0 (x := 0) (show 0 ≤ 0 ∧ 0 ≤ 12 by omega) (by omega)
  have T2 : TI (rup (rup ρ 7 0 0) 51 28 0) := TI_up (T1) 51 28 (x := 0) (show 0 ≤ 0 ∧ 0 ≤ 12 by omega) (by omega)
  rw [s100 ρ τ hT]
  refine ⟨_, ⟨by omega, by omega⟩, rfl, ?_⟩
  rw [s161 _ τ T1]
  refine ⟨vI_eq (by simp (disch := omega) only [rup_fn]; exact e1.symm), _, _, rfl, ?_⟩
  exact ⟨T2, (by have z := h.2.1; unfold RH at z ⊢; simpa (disch := omega) only [rup_fn, rup_sl] using z), (by have z := h.D; unfold RD at z ⊢; simpa (disch := omega) only [rup_fn, rup_sl] using z), (by have z := h.O; unfold RO at z ⊢; simpa (disch := omega) only [rup_fn, rup_sl] using z), (by have z := h.S; unfold RS at z ⊢; simpa (disch := omega) only [rup_fn, rup_sl] using z), (by have z := h.T; unfold RT at z ⊢; simpa (disch := omega) only [rup_fn, rup_sl] using z), (by have z := h.W; unfold RW at z ⊢; simpa (disch := omega) only [rup_fn, rup_sl] using z), (by have z := h.K; unfold RK at z ⊢; simp (disch := omega) only [rup_fn, rup_sl, rup_same]; exact ⟨rfl, fun k h1 h2 => absurd h2 (by omega)⟩), (by have z := h.B; unfold RB at z ⊢; simpa (disch := omega) only [rup_fn, rup_sl] using z), (by have z := h.G; unfold RG at z ⊢; simpa (disch := omega) only [rup_fn, rup_sl] using z)⟩
theorem ag_hush : Agree 104 166 [] := by
  intro ρ τ h
  have hT := h.1
  have n1 := h.n
  have hn := h.nb
  have e1 : ρ 8 0 = ρ 51 30 := h.B.1
  have q1 : 0 ≤ ρ 8 0 ∧ ρ 8 0 ≤ 10 := hT.2 8 0
  have T1 : TI (rup ρ 8 0 0) := TI_up (hT) 8 0 (x := 0) (show 0 ≤ 0 ∧ 0 ≤ 10 by omega) (by omega)
  have T2 : TI (rup (rup ρ 8 0 0) 51 30 0) := TI_up (T1) 51 30 (x := 0) (show 0 ≤ 0 ∧ 0 ≤ 10 by omega) (by omega)
  rw [s104 ρ τ hT]
  refine ⟨_, ⟨by omega, by omega⟩, rfl, ?_⟩
  rw [s166 _ τ T1]
  refine ⟨vI_eq (by simp (disch := omega) only [rup_fn]; exact e1.symm), _, _, rfl, ?_⟩
  exact ⟨T2, (by have z := h.2.1; unfold RH at z ⊢; simpa (disch := omega) only [rup_fn, rup_sl] using z), (by have z := h.D; unfold RD at z ⊢; simpa (disch := omega) only [rup_fn, rup_sl] using z), (by have z := h.O; unfold RO at z ⊢; simpa (disch := omega) only [rup_fn, rup_sl] using z), (by have z := h.S; unfold RS at z ⊢; simpa (disch := omega) only [rup_fn, rup_sl] using z), (by have z := h.T; unfold RT at z ⊢; simpa (disch := omega) only [rup_fn, rup_sl] using z), (by have z := h.W; unfold RW at z ⊢; simpa (disch := omega) only [rup_fn, rup_sl] using z), (by have z := h.K; unfold RK at z ⊢; simpa (disch := omega) only [rup_fn, rup_sl] using z), (by have z := h.B; unfold RB at z ⊢; simp (disch := omega) only [rup_fn, rup_sl, rup_same]; exact ⟨rfl, fun k h1 h2 => absurd h2 (by omega)⟩), (by have z := h.G; unfold RG at z ⊢; simpa (disch := omega) only [rup_fn, rup_sl] using z)⟩
theorem ag_forget : Agree 107 173 [] := by
  intro ρ τ h
  have hT := h.1
  have n1 := h.n
  have hn := h.nb
  have e1 : ρ 9 0 = ρ 51 32 := h.G.1
  have q1 : 0 ≤ ρ 9 0 ∧ ρ 9 0 ≤ 12 := hT.2 9 0
  have T1 : TI (rup ρ 9 0 0) := TI_up (hT) 9 0 (x := 0) (show 0 ≤ 0 ∧ 0 ≤ 12 by omega) (by omega)
  have T2 : TI (rup (rup ρ 9 0 0) 51 32 0) := TI_up (T1) 51 32 (x := 0) (show 0 ≤ 0 ∧ 0 ≤ 12 by omega) (by omega)
  rw [s107 ρ τ hT]
  refine ⟨_, ⟨by omega, by omega⟩, rfl, ?_⟩
  rw [s173 _ τ T1]
  refine ⟨vI_eq (by simp (disch := omega) only [rup_fn]; exact e1.symm), _, _, rfl, ?_⟩
  exact ⟨T2, (by have z := h.2.1; unfold RH at z ⊢; simpa (disch := omega) only [rup_fn, rup_sl] using z), (by have z := h.D; unfold RD at z ⊢; simpa (disch := omega) only [rup_fn, rup_sl] using z), (by have z := h.O; unfold RO at z ⊢; simpa (disch := omega) only [rup_fn, rup_sl] using z), (by have z := h.S; unfold RS at z ⊢; simpa (disch := omega) only [rup_fn, rup_sl] using z), (by have z := h.T; unfold RT at z ⊢; simpa (disch := omega) only [rup_fn, rup_sl] using z), (by have z := h.W; unfold RW at z ⊢; simpa (disch := omega) only [rup_fn, rup_sl] using z), (by have z := h.K; unfold RK at z ⊢; simpa (disch := omega) only [rup_fn, rup_sl] using z), (by have z := h.B; unfold RB at z ⊢; simpa (disch := omega) only [rup_fn, rup_sl] using z), (by have z := h.G; unfold RG at z ⊢; simp (disch := omega) only [rup_fn, rup_sl, rup_same]; exact ⟨rfl, fun k h1 h2 => absurd h2 (by omega)⟩)⟩
theorem RW_set {ρ : rm} (h : RW ρ) {a v : Int} (ha : a < ρ 51 0) : RWo (ρ 51 0) a a v v (ρ 40) (ρ 41) (ρ 60) (ρ 61) := ⟨rfl, ha, rfl, h.2.2.2⟩
theorem ag_go (a : Int) (ha : SB a) : Agree 91 148 [some (vI a)] := by
  intro ρ τ h
  have hT := h.1
  have n1 := h.n
  have hn := h.nb
  obtain ⟨w1, w2, w3, w4⟩ := id h.W
  have b1 : 0 ≤ ρ 6 0 ∧ ρ 6 0 ≤ 9 := hT.2 6 0
  have b2 : 0 ≤ ρ 6 1 ∧ ρ 6 1 ≤ 99999 := hT.2 6 1
  rw [s91 ρ τ a hT ha]
  by_cases h1 : 0 ≤ a ∧ a < ρ 1 1
  · rw [if_pos h1]
    have e1 := h.gr (a := ρ 6 0) (b := a) (by omega) (by omega)
    have q1 := TI.row hT (k := 17 + (ρ 6 0).toNat) (by omega) a
    by_cases h2 : a = ρ 6 0
    · rw [if_pos h2]
      refine ⟨_, by decide, rfl, ?_⟩
      rw [s148 ρ τ a hT ha, if_pos (by omega), if_pos (by omega)]
      exact ag_end rfl h
    · rw [if_neg h2]
      obtain ⟨v, hv⟩ : ∃ v, v = ρ 6 1 + ρ (17 + (ρ 6 0).toNat) a := ⟨_, rfl⟩
      rw [← hv]
      have hv2 : ρ 51 25 + ρ 57 (10 * ρ 51 24 + a) = v := by rw [hv, e1, w1, w3]
      by_cases h3 : v ≤ 99999
      · rw [if_pos h3]
        have T1 : TI (rup (rup ρ 6 1 v) 6 0 a) := TI_up (TI_up (hT) 6 1 (x := v) (show 0 ≤ v ∧ v ≤ 99999 by omega) (by omega)) 6 0 (x := a) (show 0 ≤ a ∧ a ≤ 9 by omega) (by omega)
        have T2 : TI (rup (rup (rup (rup ρ 6 1 v) 6 0 a) 51 25 v) 51 24 a) := TI_up (TI_up (T1) 51 25 (x := v) (show 0 ≤ v ∧ v ≤ 99999 by omega) (by omega)) 51 24 (x := a) (show 0 ≤ a ∧ a ≤ 9 by omega) (by omega)
        refine ⟨v, ⟨by omega, by omega⟩, rfl, ?_⟩
        rw [s148 _ τ a T1 ha]
        simp (disch := omega) only [rup_fn]
        rw [hv2, if_pos (by omega), if_neg (by omega), if_pos (by omega)]
        refine ⟨rfl, _, _, rfl, ?_⟩
        exact ⟨T2, (by have z := h.2.1; unfold RH at z ⊢; simpa (disch := omega) only [rup_fn, rup_sl] using z), (by have z := h.D; unfold RD at z ⊢; simpa (disch := omega) only [rup_fn, rup_sl] using z), (by have z := h.O; unfold RO at z ⊢; simpa (disch := omega) only [rup_fn, rup_sl] using z), (by have z := h.S; unfold RS at z ⊢; simpa (disch := omega) only [rup_fn, rup_sl] using z), (by have z := h.T; unfold RT at z ⊢; simpa (disch := omega) only [rup_fn, rup_sl] using z), (by have z := RW_set h.W (a := a) (v := v) (by omega); unfold RW; simpa (disch := omega) only [rup_fn, rup_sl, rup_same] using z), (by have z := h.K; unfold RK at z ⊢; simpa (disch := omega) only [rup_fn, rup_sl] using z), (by have z := h.B; unfold RB at z ⊢; simpa (disch := omega) only [rup_fn, rup_sl] using z), (by have z := h.G; unfold RG at z ⊢; simpa (disch := omega) only [rup_fn, rup_sl] using z)⟩
      · rw [if_neg h3]
        refine ⟨_, by decide, rfl, ?_⟩
        rw [s148 ρ τ a hT ha, hv2, if_pos (by omega), if_neg (by omega), if_neg (by omega)]
        exact ag_end rfl h
  · rw [if_neg h1]
    refine ⟨_, by decide, rfl, ?_⟩
    rw [s148 ρ τ a hT ha, if_neg (by omega)]
    exact ag_end rfl h
theorem ag_await (a : Int) (ha : SB a) : Agree 92 149 [some (vI a)] := by
  intro ρ τ h
  have hT := h.1
  have n1 := h.n
  have hn := h.nb
  obtain ⟨w1, w2, w3, w4⟩ := id h.W
  have b1 : 0 ≤ ρ 6 0 ∧ ρ 6 0 ≤ 9 := hT.2 6 0
  have b2 : 0 ≤ ρ 6 1 ∧ ρ 6 1 ≤ 99999 := hT.2 6 1
  rw [s92 ρ τ a hT ha]
  split
  · refine ⟨_, by decide, rfl, ?_⟩
    rw [s149 ρ τ a hT ha, if_neg (by omega)]
    exact ag_end rfl h
  · split
    · split
      · rename_i h1 h2 h3
        obtain ⟨v, hv⟩ : ∃ v, v = ρ 6 1 + a := ⟨_, rfl⟩
        rw [← hv]
        have hv2 : ρ 51 25 + a = v := by rw [hv, w3]
        have T1 : TI (rup (rup ρ 6 1 v) 6 0 (ρ 6 0)) := TI_up (TI_up (hT) 6 1 (x := v) (show 0 ≤ v ∧ v ≤ 99999 by omega) (by omega)) 6 0 (x := (ρ 6 0)) (show 0 ≤ (ρ 6 0) ∧ (ρ 6 0) ≤ 9 by omega) (by omega)
        have T2 : TI (rup (rup (rup ρ 6 1 v) 6 0 (ρ 6 0)) 51 25 v) := TI_up (T1) 51 25 (x := v) (show 0 ≤ v ∧ v ≤ 99999 by omega) (by omega)
        refine ⟨v, ⟨by omega, by omega⟩, rfl, ?_⟩
        rw [s149 _ τ a T1 ha]
        simp (disch := omega) only [rup_fn]
        rw [hv2, if_pos (by omega), if_pos (by omega)]
        refine ⟨rfl, _, _, rfl, ?_⟩
        exact ⟨T2, (by have z := h.2.1; unfold RH at z ⊢; simpa (disch := omega) only [rup_fn, rup_sl] using z), (by have z := h.D; unfold RD at z ⊢; simpa (disch := omega) only [rup_fn, rup_sl] using z), (by have z := h.O; unfold RO at z ⊢; simpa (disch := omega) only [rup_fn, rup_sl] using z), (by have z := h.S; unfold RS at z ⊢; simpa (disch := omega) only [rup_fn, rup_sl] using z), (by have z := h.T; unfold RT at z ⊢; simpa (disch := omega) only [rup_fn, rup_sl] using z), (by have z := RW_set h.W (a := ρ 6 0) (v := v) (by omega); unfold RW; simp (disch := omega) only [rup_fn, rup_sl, rup_same]; rw [← w1]; exact z), (by have z := h.K; unfold RK at z ⊢; simpa (disch := omega) only [rup_fn, rup_sl] using z), (by have z := h.B; unfold RB at z ⊢; simpa (disch := omega) only [rup_fn, rup_sl] using z), (by have z := h.G; unfold RG at z ⊢; simpa (disch := omega) only [rup_fn, rup_sl] using z)⟩
      · refine ⟨_, by decide, rfl, ?_⟩
        rw [s149 ρ τ a hT ha, if_pos (by omega), if_neg (by omega)]
        exact ag_end rfl h
    · refine ⟨_, by decide, rfl, ?_⟩
      rw [s149 ρ τ a hT ha, if_neg (by omega)]
      exact ag_end rfl h
theorem ag_keep (a : Int) (ha : SB a) : Agree 94 151 [some (vI a)] := by
  intro ρ τ h
  have hT := h.1
  have n1 := h.n
  have hn := h.nb
  obtain ⟨w1, w2, w3, w4⟩ := id h.W
  have b1 : 0 ≤ ρ 6 0 ∧ ρ 6 0 ≤ 9 := hT.2 6 0
  have b2 : 0 ≤ ρ 6 1 ∧ ρ 6 1 ≤ 99999 := hT.2 6 1
  rw [s94 ρ τ a hT ha]
  split
  · refine ⟨_, by decide, rfl, ?_⟩
    rw [s151 ρ τ a hT ha, if_neg (by omega)]
    exact ag_end rfl h
  · split
    · refine ⟨_, by decide, rfl, ?_⟩
      rw [s151 ρ τ a hT ha, if_neg (by omega)]
      exact ag_end rfl h
    · rename_i h1 h2
      have T1 : TI (rup (rup ρ 40 a (ρ 6 0)) 41 a (ρ 6 1)) := TI_up (TI_up (hT) 40 a (x := (ρ 6 0)) (show -1 ≤ (ρ 6 0) ∧ (ρ 6 0) ≤ 9 by omega) (by omega)) 41 a (x := (ρ 6 1)) (show 0 ≤ (ρ 6 1) ∧ (ρ 6 1) ≤ 99999 by omega) (by omega)
      have T2 : TI (rup (rup (rup (rup (rup ρ 40 a (ρ 6 0)) 41 a (ρ 6 1)) 60 (2 * a) (ρ 51 24)) 60 (2 * a + 1) (ρ 51 25)) 61 a 1) := TI_up (TI_up (TI_up T1 60 (2 * a) (x := ρ 51 24) (by rw [show loB 60 (2 * a) = 0 from rfl, show hiB 60 (2 * a) = if (2 * a) % 2 = 0 then 9 else 99999 from rfl, if_pos (by omega)]; omega) (by omega)) 60 (2 * a + 1) (x := ρ 51 25) (by rw [show loB 60 (2 * a + 1) = 0 from rfl, show hiB 60 (2 * a + 1) = if (2 * a + 1) % 2 = 0 then 9 else 99999 from rfl, if_neg (by omega)]; omega) (by omega)) 61 a (x := 1) (show (0 : Int) ≤ 1 ∧ (1 : Int) ≤ 1 by omega) (by omega)
      refine ⟨_, ⟨by omega, by omega⟩, rfl, ?_⟩
      rw [s151 _ τ a T1 ha]
      simp (disch := omega) only [rup_fn]
      rw [if_pos (by omega)]
      refine ⟨vI_eq w3.symm, _, _, rfl, ?_⟩
      exact ⟨T2, (by have z := h.2.1; unfold RH at z ⊢; simpa (disch := omega) only [rup_fn, rup_sl] using z), (by have z := h.D; unfold RD at z ⊢; simpa (disch := omega) only [rup_fn, rup_sl] using z), (by have z := h.O; unfold RO at z ⊢; simpa (disch := omega) only [rup_fn, rup_sl] using z), (by have z := h.S; unfold RS at z ⊢; simpa (disch := omega) only [rup_fn, rup_sl] using z), (by have z := h.T; unfold RT at z ⊢; simpa (disch := omega) only [rup_fn, rup_sl] using z), (by
        unfold RW
        simp (disch := omega) only [rup_fn]
        refine ⟨w1, w2, w3, fun k h3 h4 => ?_⟩
        by_cases hk : k = a
        · subst hk
          rw [rup_same, rup_same, rup_same, rup_sl (by omega), rup_same, rup_same]
          exact ⟨by omega, fun _ => ⟨w1, w3, w2⟩⟩
        · rw [rup_sl hk, rup_sl hk, rup_sl hk, rup_sl (by omega), rup_sl (by omega), rup_sl (by omega), rup_sl (by omega)]
          exact w4 k h3 h4), (by have z := h.K; unfold RK at z ⊢; simpa (disch := omega) only [rup_fn, rup_sl] using z), (by have z := h.B; unfold RB at z ⊢; simpa (disch := omega) only [rup_fn, rup_sl] using z), (by have z := h.G; unfold RG at z ⊢; simpa (disch := omega) only [rup_fn, rup_sl] using z)⟩
theorem ag_back (a : Int) (ha : SB a) : Agree 95 152 [some (vI a)] := by
  intro ρ τ h
  have hT := h.1
  have n1 := h.n
  have hn := h.nb
  obtain ⟨w1, w2, w3, w4⟩ := id h.W
  rw [s95 ρ τ a hT ha]
  split
  · refine ⟨_, by decide, rfl, ?_⟩
    rw [s152 ρ τ a hT ha, if_neg (by omega)]
    exact ag_end rfl h
  · split
    · refine ⟨_, by decide, rfl, ?_⟩
      rw [s152 ρ τ a hT ha, if_neg (by omega)]
      exact ag_end rfl h
    · rename_i h1 h2
      obtain ⟨k1, k2⟩ := w4 a (by omega) (by omega)
      split
      · rename_i h3
        refine ⟨_, by decide, rfl, ?_⟩
        rw [s152 ρ τ a hT ha, if_pos (by omega), if_pos (k1.mp h3)]
        exact ag_end rfl h
      · rename_i h3
        have h4 : ¬ ρ 61 a = 0 := fun z => h3 (k1.mpr z)
        obtain ⟨k3, k4, k5⟩ := k2 h4
        have b1 : -1 ≤ ρ 40 a ∧ ρ 40 a ≤ 9 := hT.2 40 a
        have b2 : 0 ≤ ρ 41 a ∧ ρ 41 a ≤ 99999 := hT.2 41 a
        have b3 := T60a hT a
        have T1 : TI (rup (rup ρ 6 0 (ρ 40 a)) 6 1 (ρ 41 a)) := TI_up (TI_up (hT) 6 0 (x := (ρ 40 a)) (show 0 ≤ (ρ 40 a) ∧ (ρ 40 a) ≤ 9 by omega) (by omega)) 6 1 (x := (ρ 41 a)) (show 0 ≤ (ρ 41 a) ∧ (ρ 41 a) ≤ 99999 by omega) (by omega)
        have T2 : TI (rup (rup (rup (rup ρ 6 0 (ρ 40 a)) 6 1 (ρ 41 a)) 51 24 (ρ 60 (2 * a))) 51 25 (ρ 60 (2 * a + 1))) := TI_up (TI_up (T1) 51 24 (x := (ρ 60 (2 * a))) (show 0 ≤ (ρ 60 (2 * a)) ∧ (ρ 60 (2 * a)) ≤ 9 by omega) (by omega)) 51 25 (x := (ρ 60 (2 * a + 1))) (show 0 ≤ (ρ 60 (2 * a + 1)) ∧ (ρ 60 (2 * a + 1)) ≤ 99999 by omega) (by omega)
        refine ⟨_, ⟨by omega, by omega⟩, rfl, ?_⟩
        rw [s152 _ τ a T1 ha]
        simp (disch := omega) only [rup_fn]
        rw [if_pos (by omega), if_neg h4]
        refine ⟨vI_eq k4.symm, _, _, rfl, ?_⟩
        exact ⟨T2, (by have z := h.2.1; unfold RH at z ⊢; simpa (disch := omega) only [rup_fn, rup_sl] using z), (by have z := h.D; unfold RD at z ⊢; simpa (disch := omega) only [rup_fn, rup_sl] using z), (by have z := h.O; unfold RO at z ⊢; simpa (disch := omega) only [rup_fn, rup_sl] using z), (by have z := h.S; unfold RS at z ⊢; simpa (disch := omega) only [rup_fn, rup_sl] using z), (by have z := h.T; unfold RT at z ⊢; simpa (disch := omega) only [rup_fn, rup_sl] using z), (by unfold RW; simp (disch := omega) only [rup_fn, rup_sl, rup_same]; exact ⟨k3, k5, k4, w4⟩), (by have z := h.K; unfold RK at z ⊢; simpa (disch := omega) only [rup_fn, rup_sl] using z), (by have z := h.B; unfold RB at z ⊢; simpa (disch := omega) only [rup_fn, rup_sl] using z), (by have z := h.G; unfold RG at z ⊢; simpa (disch := omega) only [rup_fn, rup_sl] using z)⟩
theorem ag_walk (a : Int) (ha : SB a) : Agree 99 160 [some (vI a)] := by
  intro ρ τ h
  have hT := h.1
  have n1 := h.n
  have hn := h.nb
  obtain ⟨w1, w2⟩ := id h.K
  have b1 : 0 ≤ ρ 7 0 ∧ ρ 7 0 ≤ 12 := hT.2 7 0
  rw [s99 ρ τ a hT ha]
  split
  · rename_i h1
    split
    · rename_i h2
      have T1 : TI (rup (rup ρ 42 (ρ 7 0) a) 7 0 (ρ 7 0 + 1)) := TI_up (TI_up (hT) 42 (ρ 7 0) (x := a) (show 0 ≤ a ∧ a ≤ 9 by omega) (by omega)) 7 0 (x := (ρ 7 0 + 1)) (show 0 ≤ (ρ 7 0 + 1) ∧ (ρ 7 0 + 1) ≤ 12 by omega) (by omega)
      have T2 : TI (rup (rup (rup (rup ρ 42 (ρ 7 0) a) 7 0 (ρ 7 0 + 1)) 62 (ρ 51 28) a) 51 28 (ρ 51 28 + 1)) := TI_up (TI_up (T1) 62 (ρ 51 28) (x := a) (show 0 ≤ a ∧ a ≤ 9 by omega) (by omega)) 51 28 (x := (ρ 51 28 + 1)) (show 0 ≤ (ρ 51 28 + 1) ∧ (ρ 51 28 + 1) ≤ 12 by omega) (by omega)
      refine ⟨_, ⟨by omega, by omega⟩, rfl, ?_⟩
      rw [s160 _ τ a T1 ha]
      simp (disch := omega) only [rup_fn]
      rw [if_pos (by omega), if_neg (by omega)]
      refine ⟨vI_eq (by omega), _, _, rfl, ?_⟩
      exact ⟨T2, (by have z := h.2.1; unfold RH at z ⊢; simpa (disch := omega) only [rup_fn, rup_sl] using z), (by have z := h.D; unfold RD at z ⊢; simpa (disch := omega) only [rup_fn, rup_sl] using z), (by have z := h.O; unfold RO at z ⊢; simpa (disch := omega) only [rup_fn, rup_sl] using z), (by have z := h.S; unfold RS at z ⊢; simpa (disch := omega) only [rup_fn, rup_sl] using z), (by have z := h.T; unfold RT at z ⊢; simpa (disch := omega) only [rup_fn, rup_sl] using z), (by have z := h.W; unfold RW at z ⊢; simpa (disch := omega) only [rup_fn, rup_sl] using z), (by
        unfold RK
        simp (disch := omega) only [rup_fn, rup_sl, rup_same]
        refine ⟨by omega, fun k h3 h4 => ?_⟩
        by_cases hk : k = ρ 51 28
        · rw [← w1] at hk
          subst hk
          rw [rup_same, w1, rup_same]
          exact ⟨rfl, by omega⟩
        · rw [rup_sl (by omega), rup_sl hk]
          exact w2 k h3 (by omega)), (by have z := h.B; unfold RB at z ⊢; simpa (disch := omega) only [rup_fn, rup_sl] using z), (by have z := h.G; unfold RG at z ⊢; simpa (disch := omega) only [rup_fn, rup_sl] using z)⟩
    · refine ⟨_, by decide, rfl, ?_⟩
      rw [s160 ρ τ a hT ha, if_pos (by omega), if_pos (by omega)]
      exact ag_end rfl h
  · refine ⟨_, by decide, rfl, ?_⟩
    rw [s160 ρ τ a hT ha, if_neg (by omega)]
    exact ag_end rfl h
theorem ag_bell (a x b y : Int) (ha : SB a) (hx : SB x) (hb : SB b) (hy : SB y) : Agree 103 165 [some (vI a), some (vI x), some (vI b), some (vI y)] := by
  intro ρ τ h
  have hT := h.1
  have n1 := h.n
  have hn := h.nb
  obtain ⟨w1, w2⟩ := id h.B
  have b1 : 0 ≤ ρ 8 0 ∧ ρ 8 0 ≤ 10 := hT.2 8 0
  rw [s103 ρ τ a x b y hT ha hx hb hy]
  by_cases h1 : 0 ≤ a ∧ a < ρ 1 1
  · rw [if_pos h1]
    by_cases h2 : 0 ≤ b ∧ b < ρ 1 1
    · rw [if_pos h2]
      by_cases h3 : 0 ≤ x ∧ x < 1440
      · rw [if_pos h3]
        by_cases h4 : 0 ≤ y ∧ y < 1440
        · rw [if_pos h4]
          by_cases h5 : a = b
          · rw [if_pos h5]
            refine ⟨_, by decide, rfl, ?_⟩
            rw [s165 ρ τ a x b y hT ha hx hb hy, if_pos (by omega), if_pos (by omega), if_pos (by omega), if_pos (by omega), if_pos h5]
            exact ag_end rfl h
          · rw [if_neg h5]
            by_cases h6 : ρ 8 0 < 10
            · rw [if_pos h6]
              have e1 := h.off (a := a) (by omega) (by omega)
              have e2 := h.off (a := b) (by omega) (by omega)
              obtain ⟨v, hv⟩ : ∃ v, v = (((x + (ρ 10 a)) - y) - (ρ 10 b)) % 1440 := ⟨_, rfl⟩
              rw [← hv]
              have T1 : TI (rup (rup (rup (rup ρ 43 (ρ 8 0) a) 44 (ρ 8 0) b) 45 (ρ 8 0) v) 8 0 (ρ 8 0 + 1)) := TI_up (TI_up (TI_up (TI_up (hT) 43 (ρ 8 0) (x := a) (show 0 ≤ a ∧ a ≤ 9 by omega) (by omega)) 44 (ρ 8 0) (x := b) (show 0 ≤ b ∧ b ≤ 9 by omega) (by omega)) 45 (ρ 8 0) (x := v) (show 0 ≤ v ∧ v ≤ 1439 by omega) (by omega)) 8 0 (x := (ρ 8 0 + 1)) (show 0 ≤ (ρ 8 0 + 1) ∧ (ρ 8 0 + 1) ≤ 10 by omega) (by omega)
              have T2 : TI (rup (rup (rup (rup (rup (rup (rup (rup (rup ρ 43 (ρ 8 0) a) 44 (ρ 8 0) b) 45 (ρ 8 0) v) 8 0 (ρ 8 0 + 1)) 63 (4 * ρ 51 30) a) 63 (4 * ρ 51 30 + 1) x) 63 (4 * ρ 51 30 + 2) b) 63 (4 * ρ 51 30 + 3) y) 51 30 (ρ 51 30 + 1)) := TI_up (TI_up (TI_up (TI_up (TI_up T1 63 (4 * ρ 51 30) (x := a) (by rw [show loB 63 (4 * ρ 51 30) = 0 from rfl, show hiB 63 (4 * ρ 51 30) = if (4 * ρ 51 30) % 2 = 0 then 9 else 1439 from rfl, if_pos (by omega)]; omega) (by omega)) 63 (4 * ρ 51 30 + 1) (x := x) (by rw [show loB 63 (4 * ρ 51 30 + 1) = 0 from rfl, show hiB 63 (4 * ρ 51 30 + 1) = if (4 * ρ 51 30 + 1) % 2 = 0 then 9 else 1439 from rfl, if_neg (by omega)]; omega) (by omega)) 63 (4 * ρ 51 30 + 2) (x := b) (by rw [show loB 63 (4 * ρ 51 30 + 2) = 0 from rfl, show hiB 63 (4 * ρ 51 30 + 2) = if (4 * ρ 51 30 + 2) % 2 = 0 then 9 else 1439 from rfl, if_pos (by omega)]; omega) (by omega)) 63 (4 * ρ 51 30 + 3) (x := y) (by rw [show loB 63 (4 * ρ 51 30 + 3) = 0 from rfl, show hiB 63 (4 * ρ 51 30 + 3) = if (4 * ρ 51 30 + 3) % 2 = 0 then 9 else 1439 from rfl, if_neg (by omega)]; omega) (by omega)) 51 30 (x := ρ 51 30 + 1) (show 0 ≤ ρ 51 30 + 1 ∧ ρ 51 30 + 1 ≤ 10 by omega) (by omega)
              refine ⟨_, ⟨by omega, by omega⟩, rfl, ?_⟩
              rw [s165 _ τ a x b y T1 ha hx hb hy]
              simp (disch := omega) only [rup_fn]
              rw [if_pos (by omega), if_pos (by omega), if_pos (by omega), if_pos (by omega), if_neg h5, if_neg (by omega)]
              refine ⟨vI_eq (by omega), _, _, rfl, ?_⟩
              exact ⟨T2, (by have z := h.2.1; unfold RH at z ⊢; simpa (disch := omega) only [rup_fn, rup_sl] using z), (by have z := h.D; unfold RD at z ⊢; simpa (disch := omega) only [rup_fn, rup_sl] using z), (by have z := h.O; unfold RO at z ⊢; simpa (disch := omega) only [rup_fn, rup_sl] using z), (by have z := h.S; unfold RS at z ⊢; simpa (disch := omega) only [rup_fn, rup_sl] using z), (by have z := h.T; unfold RT at z ⊢; simpa (disch := omega) only [rup_fn, rup_sl] using z), (by have z := h.W; unfold RW at z ⊢; simpa (disch := omega) only [rup_fn, rup_sl] using z), (by have z := h.K; unfold RK at z ⊢; simpa (disch := omega) only [rup_fn, rup_sl] using z), (by
                unfold RB
                simp (disch := omega) only [rup_fn, rup_sl, rup_same]
                refine ⟨by omega, fun k h7 h8 => ?_⟩
                by_cases hk : k = ρ 51 30
                · rw [← w1] at hk
                  subst hk
                  simp (disch := omega) only [w1, rup_sl, rup_same]
                  refine ⟨trivial, trivial, by omega, by omega, h5, ?_⟩
                  rw [hv, e1, e2]
                  rfl
                · simp (disch := omega) only [rup_sl]
                  exact w2 k h7 (by omega)), (by have z := h.G; unfold RG at z ⊢; simpa (disch := omega) only [rup_fn, rup_sl] using z)⟩
            · rw [if_neg h6]
              refine ⟨_, by decide, rfl, ?_⟩
              rw [s165 ρ τ a x b y hT ha hx hb hy, if_pos (by omega), if_pos (by omega), if_pos (by omega), if_pos (by omega), if_neg h5, if_pos (by omega)]
              exact ag_end rfl h
        · rw [if_neg h4]
          refine ⟨_, by decide, rfl, ?_⟩
          rw [s165 ρ τ a x b y hT ha hx hb hy, if_pos (by omega), if_pos (by omega), if_pos (by omega), if_neg (by omega)]
          exact ag_end rfl h
      · rw [if_neg h3]
        refine ⟨_, by decide, rfl, ?_⟩
        rw [s165 ρ τ a x b y hT ha hx hb hy, if_pos (by omega), if_pos (by omega), if_neg (by omega)]
        exact ag_end rfl h
    · rw [if_neg h2]
      refine ⟨_, by decide, rfl, ?_⟩
      rw [s165 ρ τ a x b y hT ha hx hb hy, if_pos (by omega), if_neg (by omega)]
      exact ag_end rfl h
  · rw [if_neg h1]
    refine ⟨_, by decide, rfl, ?_⟩
    rw [s165 ρ τ a x b y hT ha hx hb hy, if_neg (by omega)]
    exact ag_end rfl h
theorem ag_seen (p a c : Int) (hp : SB p) (ha : SB a) (hc : SB c) : Agree 106 172 [some (vI p), some (vI a), some (vI c)] := by
  intro ρ τ h
  have hT := h.1
  have n1 := h.n
  have hn := h.nb
  obtain ⟨w1, w2⟩ := id h.G
  have b1 : 0 ≤ ρ 9 0 ∧ ρ 9 0 ≤ 12 := hT.2 9 0
  rw [s106 ρ τ p a c hT hp ha hc]
  by_cases h0 : p < 0
  · rw [if_pos h0]
    refine ⟨_, by decide, rfl, ?_⟩
    rw [s172 ρ τ p a c hT hp ha hc, if_neg (by omega)]
    exact ag_end rfl h
  · rw [if_neg h0]
    by_cases h1 : 6 ≤ p
    · rw [if_pos h1]
      refine ⟨_, by decide, rfl, ?_⟩
      rw [s172 ρ τ p a c hT hp ha hc, if_neg (by omega)]
      exact ag_end rfl h
    · rw [if_neg h1]
      by_cases h2 : 0 ≤ a ∧ a < ρ 1 1
      · rw [if_pos h2]
        by_cases h3 : 0 ≤ c ∧ c < 1440
        · rw [if_pos h3]
          by_cases h4 : ρ 9 0 < 12
          · rw [if_pos h4]
            have e1 := h.off (a := a) (by omega) (by omega)
            have e2 : 0 ≤ ρ 10 a ∧ ρ 10 a ≤ 8991 := hT.2 10 a
            obtain ⟨v, hv⟩ : ∃ v, v = ρ 10 a + c := ⟨_, rfl⟩
            rw [← hv]
            have T1 : TI (rup (rup (rup (rup ρ 48 (ρ 9 0) p) 49 (ρ 9 0) a) 50 (ρ 9 0) v) 9 0 (ρ 9 0 + 1)) := TI_up (TI_up (TI_up (TI_up (hT) 48 (ρ 9 0) (x := p) (show 0 ≤ p ∧ p ≤ 5 by omega) (by omega)) 49 (ρ 9 0) (x := a) (show 0 ≤ a ∧ a ≤ 9 by omega) (by omega)) 50 (ρ 9 0) (x := v) (show 0 ≤ v ∧ v ≤ 20000 by omega) (by omega)) 9 0 (x := (ρ 9 0 + 1)) (show 0 ≤ (ρ 9 0 + 1) ∧ (ρ 9 0 + 1) ≤ 12 by omega) (by omega)
            have T2 : TI (rup (rup (rup (rup (rup (rup (rup (rup ρ 48 (ρ 9 0) p) 49 (ρ 9 0) a) 50 (ρ 9 0) v) 9 0 (ρ 9 0 + 1)) 64 (3 * ρ 51 32) p) 64 (3 * ρ 51 32 + 1) a) 64 (3 * ρ 51 32 + 2) c) 51 32 (ρ 51 32 + 1)) := TI_up (TI_up (TI_up (TI_up T1 64 (3 * ρ 51 32) (x := p) (by rw [show loB 64 (3 * ρ 51 32) = 0 from rfl, show hiB 64 (3 * ρ 51 32) = if (3 * ρ 51 32) % 3 = 0 then 5 else if (3 * ρ 51 32) % 3 = 1 then 9 else 1439 from rfl, if_pos (by omega)]; omega) (by omega)) 64 (3 * ρ 51 32 + 1) (x := a) (by rw [show loB 64 (3 * ρ 51 32 + 1) = 0 from rfl, show hiB 64 (3 * ρ 51 32 + 1) = if (3 * ρ 51 32 + 1) % 3 = 0 then 5 else if (3 * ρ 51 32 + 1) % 3 = 1 then 9 else 1439 from rfl, if_neg (by omega), if_pos (by omega)]; omega) (by omega)) 64 (3 * ρ 51 32 + 2) (x := c) (by rw [show loB 64 (3 * ρ 51 32 + 2) = 0 from rfl, show hiB 64 (3 * ρ 51 32 + 2) = if (3 * ρ 51 32 + 2) % 3 = 0 then 5 else if (3 * ρ 51 32 + 2) % 3 = 1 then 9 else 1439 from rfl, if_neg (by omega), if_neg (by omega)]; omega) (by omega)) 51 32 (x := ρ 51 32 + 1) (show 0 ≤ ρ 51 32 + 1 ∧ ρ 51 32 + 1 ≤ 12 by omega) (by omega)
            refine ⟨_, ⟨by omega, by omega⟩, rfl, ?_⟩
            rw [s172 _ τ p a c T1 hp ha hc]
            simp (disch := omega) only [rup_fn]
            rw [if_pos (by omega), if_pos (by omega), if_pos (by omega), if_neg (by omega)]
            refine ⟨vI_eq (by omega), _, _, rfl, ?_⟩
            exact ⟨T2, (by have z := h.2.1; unfold RH at z ⊢; simpa (disch := omega) only [rup_fn, rup_sl] using z), (by have z := h.D; unfold RD at z ⊢; simpa (disch := omega) only [rup_fn, rup_sl] using z), (by have z := h.O; unfold RO at z ⊢; simpa (disch := omega) only [rup_fn, rup_sl] using z), (by have z := h.S; unfold RS at z ⊢; simpa (disch := omega) only [rup_fn, rup_sl] using z), (by have z := h.T; unfold RT at z ⊢; simpa (disch := omega) only [rup_fn, rup_sl] using z), (by have z := h.W; unfold RW at z ⊢; simpa (disch := omega) only [rup_fn, rup_sl] using z), (by have z := h.K; unfold RK at z ⊢; simpa (disch := omega) only [rup_fn, rup_sl] using z), (by have z := h.B; unfold RB at z ⊢; simpa (disch := omega) only [rup_fn, rup_sl] using z), (by
              unfold RG
              simp (disch := omega) only [rup_fn, rup_sl, rup_same]
              refine ⟨by omega, fun k h7 h8 => ?_⟩
              by_cases hk : k = ρ 51 32
              · rw [← w1] at hk
                subst hk
                simp (disch := omega) only [w1, rup_sl, rup_same]
                refine ⟨trivial, trivial, by omega, ?_⟩
                rw [hv, e1]
                rfl
              · simp (disch := omega) only [rup_sl]
                exact w2 k h7 (by omega))⟩
          · rw [if_neg h4]
            refine ⟨_, by decide, rfl, ?_⟩
            rw [s172 ρ τ p a c hT hp ha hc, if_pos (by omega), if_pos (by omega), if_pos (by omega), if_pos (by omega)]
            exact ag_end rfl h
        · rw [if_neg h3]
          refine ⟨_, by decide, rfl, ?_⟩
          rw [s172 ρ τ p a c hT hp ha hc, if_pos (by omega), if_pos (by omega), if_neg (by omega)]
          exact ag_end rfl h
      · rw [if_neg h2]
        refine ⟨_, by decide, rfl, ?_⟩
        rw [s172 ρ τ p a c hT hp ha hc, if_pos (by omega), if_neg (by omega)]
        exact ag_end rfl h
end AG3
