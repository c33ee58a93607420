/-! lines run: both sides -/
section LR
variable {Q : Option Value → mm → Prop} {τ : Int64}
theorem c_num {ρ : rm} (hT : TI ρ) {l i : Int} (hl : 0 ≤ l ∧ l < ρ 5 0) (hi : 0 ≤ i ∧ i < 5) : G 42 0 [some (.ref 5), some (vI l), some (vI i)] [] (toM ρ τ) Q = Q (some (vI (ρ 39 (5 * l + i)))) (toM ρ τ) := by
  have r : 0 ≤ ρ 5 0 ∧ ρ 5 0 ≤ 10 := hT.2 5 0
  rw [b42_0 ρ τ l i hT.1 ⟨by omega, by omega⟩ ⟨by omega, by omega⟩, if_neg (by omega), if_neg (by omega), if_neg (by omega), if_neg (by omega), if_pos (by omega), show l * 5 + i = 5 * l + i by omega]
theorem mxH_up (ρ : rm) {i : Int} (h : 0 ≤ i) : rup (rup (mxH ρ i) 11 i (if i = 0 then 0 else 1)) 12 i 1 = mxH ρ (i + 1) := by
  funext a j
  unfold rup mxH
  by_cases h1 : a = 12 ∧ j = i
  · rw [if_pos h1, if_neg (by omega), if_pos (by omega)]
  · rw [if_neg h1]
    by_cases h2 : a = 11 ∧ j = i
    · rw [if_pos h2, if_pos (show a = 11 ∧ 0 ≤ j ∧ j < i + 1 by omega), h2.2]
    · rw [if_neg h2]
      by_cases h3 : a = 11 ∧ 0 ≤ j ∧ j < i
      · rw [if_pos h3, if_pos (show a = 11 ∧ 0 ≤ j ∧ j < i + 1 by omega)]
      · rw [if_neg h3, if_neg (by omega : ¬ (a = 11 ∧ 0 ≤ j ∧ j < i + 1))]
        by_cases h4 : a = 12 ∧ 0 ≤ j ∧ j < i
        · rw [if_pos h4, if_pos (by omega)]
        · rw [if_neg h4, if_neg (by omega)]
theorem mxH_0 (ρ : rm) : mxH ρ 0 = ρ := by
  funext a j
  unfold mxH
  rw [if_neg (by omega), if_neg (by omega)]
theorem mxM_up (ρ : rm) {i : Int} (h : 0 ≤ i) : rup (rup (mxM ρ i) 52 i 1) 53 i 1 = mxM ρ (i + 1) := by
  funext a j
  unfold rup mxM
  by_cases h1 : a = 53 ∧ j = i
  · rw [if_pos h1, if_neg (by omega), if_pos (by omega)]
  · rw [if_neg h1]
    by_cases h2 : a = 52 ∧ j = i
    · rw [if_pos h2, if_pos (by omega)]
    · rw [if_neg h2]
      by_cases h3 : a = 52 ∧ 0 ≤ j ∧ j < i
      · rw [if_pos h3, if_pos (by omega)]
      · rw [if_neg h3, if_neg (by omega : ¬ (a = 52 ∧ 0 ≤ j ∧ j < i + 1))]
        by_cases h4 : a = 53 ∧ 0 ≤ j ∧ j < i
        · rw [if_pos h4, if_pos (by omega)]
        · rw [if_neg h4, if_neg (by omega)]
theorem mxM_0 (ρ : rm) : mxM ρ 0 = ρ := by
  funext a j
  unfold mxM
  rw [if_neg (by omega), if_neg (by omega)]
theorem mxS_up (ρ : rm) (s : Int) (N : Int → Int) {i : Int} (h : 0 ≤ i) : rup (mxS ρ s N i) 56 (5 * s + i) (N i) = mxS ρ s N (i + 1) := by
  funext a j
  unfold rup mxS
  by_cases h1 : a = 56 ∧ j = 5 * s + i
  · rw [if_pos h1, if_pos (by omega), h1.2, show 5 * s + i - 5 * s = i by omega]
  · rw [if_neg h1]
    by_cases h2 : a = 56 ∧ 5 * s ≤ j ∧ j < 5 * s + i
    · rw [if_pos h2, if_pos (by omega)]
    · rw [if_neg h2, if_neg (by omega)]
theorem mxS_0 (ρ : rm) (s : Int) (N : Int → Int) : mxS ρ s N 0 = ρ := by
  funext a j
  unfold mxS
  rw [if_neg (by omega)]
theorem c_restart {ρ : rm} (hT : TI ρ) {n : Int} (hn : 2 ≤ n ∧ n ≤ 10) : G 24 0 [some (.ref 1), some (vI n)] [] (toM ρ τ) Q = Q none (toM (mxH (rup (rup ρ 1 1 n) 1 2 0) 10) τ) := by
  rw [b24_0 ρ τ n hT.1 ⟨by omega, by omega⟩]
  have hT2 := TI_up (TI_up hT 1 1 (x := n) hn (by omega)) 1 2 (x := 0) ⟨by decide, by decide⟩ (by omega)
  generalize rup (rup ρ 1 1 n) 1 2 0 = ρ0 at hT2 ⊢
  have R := lpe (S := rm) (P := fun i ρ' t => G 24 12 (some (.ref 1) :: some (vI n) :: some (vI i) :: t) [] (toM ρ' τ) Q) (F := mxH ρ0) (n := 10) (X := Q none (toM (mxH ρ0 10) τ)) (fun i t h0 h1 H => by
    have hB := (TI_mxH hT2 i).1
    have e := mxH_up ρ0 h0
    show G 24 12 (some (.ref 1) :: some (vI n) :: some (vI i) :: t) [] (toM (mxH ρ0 i) τ) Q = _
    rw [b24_12 _ τ n i t hB ⟨by omega, by omega⟩ ⟨by omega, by omega⟩, if_neg (by omega)]
    by_cases c : i = 0
    · rw [if_pos c] at e ⊢
      rw [if_pos (by omega), if_pos (by omega), e]
      exact H t
    · rw [if_neg c] at e ⊢
      rw [if_pos (by omega), if_pos (by omega), e]
      exact H t) 10 0 [] (by decide) (by decide) (fun t' => by
    show G 24 12 (some (.ref 1) :: some (vI n) :: some (vI 10) :: t') [] (toM (mxH ρ0 10) τ) Q = _
    rw [b24_12 _ τ n 10 t' (TI_mxH hT2 10).1 ⟨by omega, by omega⟩ (by decide), if_pos (by decide)])
  rw [mxH_0] at R
  exact R
theorem m_plain {ρ : rm} (hT : TI ρ) : G 121 0 [some (.ref 51)] [] (toM ρ τ) Q = Q none (toM (rup (rup (rup (mxM ρ 10) 51 3 0) 51 5 0) 51 7 0) τ) := by
  rw [b121_0 ρ τ hT.1]
  have R := lpe (S := rm) (P := fun i ρ' t => G 121 2 (some (.ref 51) :: some (vI i) :: t) [] (toM ρ' τ) Q) (F := mxM ρ) (n := 10) (X := Q none (toM (rup (rup (rup (mxM ρ 10) 51 3 0) 51 5 0) 51 7 0) τ)) (fun i t h0 h1 H => by
    have hB := (TI_mxM hT i).1
    show G 121 2 (some (.ref 51) :: some (vI i) :: t) [] (toM (mxM ρ i) τ) Q = _
    rw [b121_2 _ τ i t hB ⟨by omega, by omega⟩, if_neg (by omega), if_pos (by omega), if_pos (by omega), mxM_up ρ h0]
    exact H t) 10 0 [] (by decide) (by decide) (fun t' => by
    show G 121 2 (some (.ref 51) :: some (vI 10) :: t') [] (toM (mxM ρ 10) τ) Q = _
    rw [b121_2 _ τ 10 t' (TI_mxM hT 10).1 (by decide), if_pos (by decide)])
  rw [mxM_0] at R
  exact R
theorem c_carry {ρ : rm} {k l : Int} {N : Int → Int} (hT : TI ρ) (hl : 0 ≤ l ∧ l < ρ 5 0) (hk : 1 ≤ k ∧ k ≤ 7) (h38 : ρ 38 l = k) (h39 : ∀ j, 0 ≤ j → j < nOf k → ρ 39 (5 * l + j) = N j) (hf : ¬ fuL k (ρ 1 2) (ρ 2 4) (ρ 3 0)) (hP : PN k (ρ 1 1) N (nOf k)) :
    G 113 0 [some (.ref 0), some (vI l)] [] (toM ρ τ) Q = Q none (toM (clL k N ρ) τ) := by
  have r : 0 ≤ ρ 5 0 ∧ ρ 5 0 ≤ 10 := hT.2 5 0
  have q1 : 2 ≤ ρ 1 1 ∧ ρ 1 1 ≤ 10 := hT.2 1 1
  have q2 : 0 ≤ ρ 1 2 ∧ ρ 1 2 ≤ 8 := hT.2 1 2
  have q3 : 0 ≤ ρ 2 4 ∧ ρ 2 4 ≤ 10 := hT.2 2 4
  have q4 : 0 ≤ ρ 3 0 ∧ ρ 3 0 ≤ 6 := hT.2 3 0
  have v0 : 0 ≤ ρ 39 (5 * l + 0) ∧ ρ 39 (5 * l + 0) ≤ 9999 := hT.2 39 _
  have v1 : 0 ≤ ρ 39 (5 * l + 1) ∧ ρ 39 (5 * l + 1) ≤ 9999 := hT.2 39 _
  have v2 : 0 ≤ ρ 39 (5 * l + 2) ∧ ρ 39 (5 * l + 2) ≤ 9999 := hT.2 39 _
  have v3 : 0 ≤ ρ 39 (5 * l + 3) ∧ ρ 39 (5 * l + 3) ≤ 9999 := hT.2 39 _
  have v4 : 0 ≤ ρ 39 (5 * l + 4) ∧ ρ 39 (5 * l + 4) ≤ 9999 := hT.2 39 _
  obtain ⟨p1, p2, p3, p4, p5, p6⟩ := PN_k hP
  have hTc := TI_clL hT hk hf hP
  have n0 := h39 0 (by decide)
  have n1 := h39 1 (by decide)
  have n2 := h39 2 (by decide)
  have n3 := h39 3 (by decide)
  have n4 := h39 4 (by decide)
  have sl : SM l := ⟨by omega, by omega⟩
  have sv0 : SM (ρ 39 (5 * l + 0)) := ⟨by omega, by omega⟩
  have sv1 : SM (ρ 39 (5 * l + 1)) := ⟨by omega, by omega⟩
  have sv2 : SM (ρ 39 (5 * l + 2)) := ⟨by omega, by omega⟩
  have sv3 : SM (ρ 39 (5 * l + 3)) := ⟨by omega, by omega⟩
  have sv4 : SM (ρ 39 (5 * l + 4)) := ⟨by omega, by omega⟩
  rw [b113_0 ρ τ l hT.1 sl, c_num hT hl (by decide), b113_9 ρ τ l [] _ hT.1 sl sv0, c_num hT hl (by decide), b113_19 ρ τ l _ _ _ hT.1 sl sv0 sv1, c_num hT hl (by decide), b113_29 ρ τ l _ _ _ _ hT.1 sl sv0 sv1 sv2, b41_0 ρ τ l hT.1 sl, if_neg (by omega), if_neg (by omega), if_pos (by omega), h38, b113_39 ρ τ l _ _ _ _ _ hT.1 sl sv0 sv1 sv2 ⟨by omega, by omega⟩]
  rcases (show k = 1 ∨ k = 2 ∨ k = 3 ∨ k = 4 ∨ k = 5 ∨ k = 6 ∨ k = 7 by omega) with rfl | rfl | rfl | rfl | rfl | rfl | rfl
  · have := p1 rfl
    have hT2 := TI_mxH (TI_up (TI_up hT 1 1 (x := N 0) (p1 rfl) (by omega)) 1 2 (x := 0) ⟨by decide, by decide⟩ (by omega)) 10
    rw [if_pos rfl, n0 (by decide), c_restart hT (by omega), b113_84 _ τ l _ _ _ _ hT2.1 sl ⟨by omega, by omega⟩ sv1 sv2]
    rfl
  · have := p2 rfl
    have hTc : TI (rup ρ 11 (N 0) (N 1)) := hTc
    rw [if_neg (by decide), if_pos rfl, n0 (by decide), n1 (by decide), b25_0 ρ τ _ _ hT.1 ⟨by omega, by omega⟩ ⟨by omega, by omega⟩, c_has hT.1 ⟨by omega, by omega⟩, tv_t (by omega), b25_5 ρ τ _ _ [] 1 hT.1 ⟨by omega, by omega⟩ ⟨by omega, by omega⟩ (by decide), if_neg (by decide), if_pos (by omega), b113_112 _ τ l _ _ _ _ hTc.1 sl ⟨by omega, by omega⟩ ⟨by omega, by omega⟩ sv2]
    rfl
  · have := p3 rfl
    have hTc : TI (rup ρ 12 (N 0) (N 1)) := hTc
    rw [if_neg (by decide), if_neg (by decide), if_pos rfl, n0 (by decide), n1 (by decide), b26_0 ρ τ _ _ hT.1 ⟨by omega, by omega⟩ ⟨by omega, by omega⟩, c_has hT.1 ⟨by omega, by omega⟩, tv_t (by omega), b26_5 ρ τ _ _ [] 1 hT.1 ⟨by omega, by omega⟩ ⟨by omega, by omega⟩ (by decide), if_neg (by decide), if_pos (by omega), b113_124 _ τ l _ _ _ _ hTc.1 sl ⟨by omega, by omega⟩ ⟨by omega, by omega⟩ sv2]
    rfl
  · have := p4 rfl
    have hw : ρ 1 2 < 8 := by omega
    have hTc : TI (rup (rup (rup (rup ρ 13 (ρ 1 2) (N 0)) 14 (ρ 1 2) (N 1)) 15 (ρ 1 2) (N 2)) 1 2 (ρ 1 2 + 1)) := hTc
    rw [if_neg (by decide), if_neg (by decide), if_neg (by decide), if_pos rfl, n0 (by decide), n1 (by decide), n2 (by decide), b27_0 ρ τ _ _ _ hT.1 ⟨by omega, by omega⟩ ⟨by omega, by omega⟩ ⟨by omega, by omega⟩, if_neg (by omega), if_pos (by omega), if_pos (by omega), if_pos (by omega), b113_138 _ τ l _ _ _ _ hTc.1 sl ⟨by omega, by omega⟩ ⟨by omega, by omega⟩ ⟨by omega, by omega⟩]
    rfl
  · have := p5 rfl
    have hw : ρ 2 4 < 10 := by omega
    have hTc : TI (rup (rup (rup (rup ρ 27 (ρ 2 4) (N 0)) 28 (ρ 2 4) (N 1)) 29 (ρ 2 4) (N 2)) 2 4 (ρ 2 4 + 1)) := hTc
    rw [if_neg (by decide), if_neg (by decide), if_neg (by decide), if_neg (by decide), if_pos rfl, n0 (by decide), n1 (by decide), n2 (by decide), b10_0 ρ τ _ _ _ hT.1 ⟨by omega, by omega⟩ ⟨by omega, by omega⟩ ⟨by omega, by omega⟩, if_neg (by omega), if_pos (by omega), if_pos (by omega), if_pos (by omega), b113_152 _ τ l _ _ _ _ hTc.1 sl ⟨by omega, by omega⟩ ⟨by omega, by omega⟩ ⟨by omega, by omega⟩]
    rfl
  · have := p6 rfl
    have hw : ρ 3 0 < 6 := by omega
    have hTc : TI (rup (rup (rup (rup (rup (rup ρ 32 (ρ 3 0) (N 0)) 33 (ρ 3 0) (N 1)) 34 (ρ 3 0) (N 2)) 35 (ρ 3 0) (N 3)) 36 (ρ 3 0) (N 4)) 3 0 (ρ 3 0 + 1)) := hTc
    rw [if_neg (by decide), if_neg (by decide), if_neg (by decide), if_neg (by decide), if_neg (by decide), if_pos rfl, c_num hT hl (by decide), b113_172 ρ τ l _ _ _ _ _ _ _ _ hT.1 sl sv0 sv1 sv2 sv2 sv1 sv0 sv3, c_num hT hl (by decide), b113_181 ρ τ l _ _ _ _ _ _ _ _ _ hT.1 sl sv0 sv1 sv2 sv3 sv2 sv1 sv0 sv4, n0 (by decide), n1 (by decide), n2 (by decide), n3 (by decide), n4 (by decide), b59_0 ρ τ _ _ _ _ _ hT.1 ⟨by omega, by omega⟩ ⟨by omega, by omega⟩ ⟨by omega, by omega⟩ ⟨by omega, by omega⟩ ⟨by omega, by omega⟩, if_neg (by omega), if_pos (by omega), if_pos (by omega), if_pos (by omega), if_pos (by omega), if_pos (by omega), b113_184 _ τ l _ _ _ _ hTc.1 sl ⟨by omega, by omega⟩ ⟨by omega, by omega⟩ ⟨by omega, by omega⟩]
    rfl
  · rw [if_neg (by decide), if_neg (by decide), if_neg (by decide), if_neg (by decide), if_neg (by decide), if_neg (by decide)]
    rfl
theorem m_doLine {ρ : rm} {k l : Int} {N : Int → Int} (hT : TI ρ) (hl : 0 ≤ l ∧ l < 10) (hk : 1 ≤ k ∧ k ≤ 7) (h59 : ρ 59 (6 * l) = k - 1) (hN : ∀ j, 0 ≤ j → j < nOf k → ρ 59 (6 * l + 1 + j) = N j) (hf : ¬ fuL k (ρ 51 3) (ρ 51 5) (ρ 51 7)) (hP : PN k (ρ 51 0) N (nOf k)) :
    G 135 0 [some (.ref 51), some (vI (6 * l))] [] (toM ρ τ) Q = Q none (toM (mdL k N ρ) τ) := by
  have q1 : 2 ≤ ρ 51 0 ∧ ρ 51 0 ≤ 10 := hT.2 51 0
  have q2 : 0 ≤ ρ 51 3 ∧ ρ 51 3 ≤ 8 := hT.2 51 3
  have q3 : 0 ≤ ρ 51 5 ∧ ρ 51 5 ≤ 10 := hT.2 51 5
  have q4 : 0 ≤ ρ 51 7 ∧ ρ 51 7 ≤ 6 := hT.2 51 7
  have w1 : -1 ≤ ρ 59 (6 * l + 1) ∧ ρ 59 (6 * l + 1) ≤ 9999 := hT.2 59 _
  have w2 : -1 ≤ ρ 59 (6 * l + 2) ∧ ρ 59 (6 * l + 2) ≤ 9999 := hT.2 59 _
  obtain ⟨p1, p2, p3, p4, p5, p6⟩ := PN_k hP
  have n0 : 0 < nOf k → ρ 59 (6 * l + 1) = N 0 := fun h => by have := hN 0 (by decide) h; rwa [show 6 * l + 1 + 0 = 6 * l + 1 by omega] at this
  have n1 : 1 < nOf k → ρ 59 (6 * l + 2) = N 1 := fun h => by have := hN 1 (by decide) h; rwa [show 6 * l + 1 + 1 = 6 * l + 2 by omega] at this
  have n2 : 2 < nOf k → ρ 59 (6 * l + 3) = N 2 := fun h => by have := hN 2 (by decide) h; rwa [show 6 * l + 1 + 2 = 6 * l + 3 by omega] at this
  rw [b135_0 ρ τ (6 * l) hT.1 ⟨by omega, by omega⟩, if_pos (by omega), if_pos (by omega), if_pos (by omega), h59]
  rcases (show k = 1 ∨ k = 2 ∨ k = 3 ∨ k = 4 ∨ k = 5 ∨ k = 6 ∨ k = 7 by omega) with rfl | rfl | rfl | rfl | rfl | rfl | rfl
  · have := p1 rfl
    have hT2 := TI_up (TI_up (TI_up (TI_mxM hT 10) 51 3 (x := 0) ⟨by decide, by decide⟩ (by omega)) 51 5 (x := 0) ⟨by decide, by decide⟩ (by omega)) 51 7 (x := 0) ⟨by decide, by decide⟩ (by omega)
    rw [if_pos (by decide), m_plain hT, b135_68 _ τ _ _ _ _ hT2.1 ⟨by omega, by omega⟩ ⟨by omega, by omega⟩ ⟨by omega, by omega⟩, n0 (by decide)]
    rfl
  · have := p2 rfl
    rw [if_neg (by decide), if_pos (by decide), n0 (by decide), n1 (by decide), if_pos (by omega)]
    rfl
  · have := p3 rfl
    rw [if_neg (by decide), if_neg (by decide), if_pos (by decide), n0 (by decide), n1 (by decide), if_pos (by omega)]
    rfl
  · have := p4 rfl
    have hw : ρ 51 3 < 8 := by omega
    rw [if_neg (by decide), if_neg (by decide), if_neg (by decide), if_pos (by decide), n0 (by decide), n1 (by decide), n2 (by decide), if_pos (by omega), if_pos (by omega), if_pos (by omega), if_pos (by omega)]
    rfl
  · have := p5 rfl
    have hw : ρ 51 5 < 10 := by omega
    rw [if_neg (by decide), if_neg (by decide), if_neg (by decide), if_neg (by decide), if_pos (by decide), n0 (by decide), n1 (by decide), n2 (by decide), if_pos (by omega), if_pos (by omega), if_pos (by omega), if_pos (by omega)]
    rfl
  · have := p6 rfl
    have hw : ρ 51 7 < 6 := by omega
    rw [if_neg (by decide), if_neg (by decide), if_neg (by decide), if_neg (by decide), if_neg (by decide), if_pos (by decide)]
    have hTi : ∀ i, i ≤ 5 → TI (mxS ρ (ρ 51 7) N i) := fun i hi => TI_mxS hT hi (by omega) (fun q z1 z2 => by rcases (show q = 0 ∨ q = 1 ∨ q = 2 ∨ q = 3 ∨ q = 4 by omega) with rfl | rfl | rfl | rfl | rfl <;> omega)
    have s7 : ∀ i, mxS ρ (ρ 51 7) N i 51 7 = ρ 51 7 := fun i => by unfold mxS; rw [if_neg (by omega)]
    have s59 : ∀ i j, mxS ρ (ρ 51 7) N i 59 j = ρ 59 j := fun i j => by unfold mxS; rw [if_neg (by omega)]
    have R := lpe (S := rm) (P := fun i ρ' t => G 135 219 (some (.ref 51) :: some (vI (6 * l)) :: some (vI (ρ 59 (6 * l + 1))) :: some (vI (ρ 59 (6 * l + 2))) :: some (vI i) :: t) [] (toM ρ' τ) Q) (F := mxS ρ (ρ 51 7) N) (n := 5) (X := Q none (toM (mdL 6 N ρ) τ)) (fun i t h0 h1 H => by
      show G 135 219 (some (.ref 51) :: some (vI (6 * l)) :: some (vI (ρ 59 (6 * l + 1))) :: some (vI (ρ 59 (6 * l + 2))) :: some (vI i) :: t) [] (toM (mxS ρ (ρ 51 7) N i) τ) Q = _
      rw [b135_219 _ τ _ _ _ i t (hTi i (by omega)).1 ⟨by omega, by omega⟩ ⟨by omega, by omega⟩ ⟨by omega, by omega⟩ ⟨by omega, by omega⟩, if_neg (by omega), s7, s59, hN i h0 (by show i < 5; omega), if_pos (by omega), if_pos (by omega), mxS_up ρ _ N h0]
      exact H t) 5 0 [] (by decide) (by decide) (fun t' => by
      show G 135 219 (some (.ref 51) :: some (vI (6 * l)) :: some (vI (ρ 59 (6 * l + 1))) :: some (vI (ρ 59 (6 * l + 2))) :: some (vI 5) :: t') [] (toM (mxS ρ (ρ 51 7) N 5) τ) Q = _
      rw [b135_219 _ τ _ _ _ 5 t' (hTi 5 (by omega)).1 ⟨by omega, by omega⟩ ⟨by omega, by omega⟩ ⟨by omega, by omega⟩ (by decide), if_pos (by decide), s7]
      rfl)
    rw [mxS_0] at R
    exact R
  · rw [if_neg (by decide), if_neg (by decide), if_neg (by decide), if_neg (by decide), if_neg (by decide), if_neg (by decide)]
    rfl
/-! all lines -/
def clA : List (Int × (Int → Int)) → rm → rm
  | [], ρ => ρ
  | (k, N) :: t, ρ => clA t (clL k N ρ)
def mdA : List (Int × (Int → Int)) → rm → rm
  | [], ρ => ρ
  | (k, N) :: t, ρ => mdA t (mdL k N ρ)
theorem HC_keep {ρ ρ' : rm} (h38 : ρ' 38 = ρ 38) (h39 : ρ' 39 = ρ 39) : ∀ (L : List (Int × (Int → Int))) (l : Int), HC ρ l L → HC ρ' l L
  | [], l, h => trivial
  | (k, N) :: t, l, h => ⟨by rw [h38, h39]; exact h.1, HC_keep h38 h39 t (l + 1) h.2⟩
theorem HM_keep {ρ ρ' : rm} (h59 : ρ' 59 = ρ 59) : ∀ (L : List (Int × (Int → Int))) (l : Int), HM ρ l L → HM ρ' l L
  | [], l, h => trivial
  | (k, N) :: t, l, h => ⟨by rw [h59]; exact h.1, HM_keep h59 t (l + 1) h.2⟩
theorem c_lines : ∀ (L : List (Int × (Int → Int))) (l : Int) (ρ : rm) (t : List (Option Value)), TI ρ → 0 ≤ l → HC ρ l L → VL (ρ 1 1) (ρ 1 2) (ρ 2 4) (ρ 3 0) L → ρ 5 0 = l + (L.length : Int) → (TI (clA L ρ) → ∀ t', G 84 44 (some (.ref 0) :: some (vI (ρ 5 0)) :: t') [] (toM (clA L ρ) τ) Q) → G 84 44 (some (.ref 0) :: some (vI l) :: t) [] (toM ρ τ) Q
  | [], l, ρ, t, hT, h0, h1, h2, h3, H => by
    have e : ρ 5 0 = l := by rw [h3]; simp
    rw [← e]
    exact H hT t
  | (k, N) :: L, l, ρ, t, hT, h0, h1, h2, h3, H => by
    have r : 0 ≤ ρ 5 0 ∧ ρ 5 0 ≤ 10 := hT.2 5 0
    have h3' : ρ 5 0 = l + 1 + (L.length : Int) := by rw [h3, List.length_cons]; omega
    obtain ⟨v1, v2, v3, v4⟩ := h2
    have hT2 := TI_clL hT v1 v2 v3
    obtain ⟨c1, c2, c3, c4⟩ := clL_num k N ρ v1
    have k5 : clL k N ρ 5 0 = ρ 5 0 := clL_keep k N ρ 0 (by unfold stC; omega)
    have k38 : clL k N ρ 38 = ρ 38 := funext fun j => clL_keep k N ρ j (by unfold stC; omega)
    have k39 : clL k N ρ 39 = ρ 39 := funext fun j => clL_keep k N ρ j (by unfold stC; omega)
    rw [b84_44 ρ τ l t hT.1 ⟨by omega, by omega⟩, if_neg (by omega), c_carry hT ⟨h0, by omega⟩ v1 h1.1.1 h1.1.2 v2 v3, b84_60 _ τ l t hT2.1 ⟨by omega, by omega⟩]
    refine c_lines L (l + 1) (clL k N ρ) t hT2 (by omega) (HC_keep k38 k39 L _ h1.2) (by rw [c1, c2, c3, c4]; exact v4) (by rw [k5]; exact h3') (fun z1 z2 => ?_)
    rw [k5]
    exact H z1 z2
theorem m_lines : ∀ (L : List (Int × (Int → Int))) (l : Int) (ρ : rm) (t : List (Option Value)), TI ρ → 0 ≤ l → HM ρ l L → VL (ρ 51 0) (ρ 51 3) (ρ 51 5) (ρ 51 7) L → ρ 51 18 = l + (L.length : Int) → (TI (mdA L ρ) → ∀ t', G 136 12 (some (.ref 51) :: some (vI (ρ 51 18)) :: t') [] (toM (mdA L ρ) τ) Q) → G 136 12 (some (.ref 51) :: some (vI l) :: t) [] (toM ρ τ) Q
  | [], l, ρ, t, hT, h0, h1, h2, h3, H => by
    have e : ρ 51 18 = l := by rw [h3]; simp
    rw [← e]
    exact H hT t
  | (k, N) :: L, l, ρ, t, hT, h0, h1, h2, h3, H => by
    have r : 0 ≤ ρ 51 18 ∧ ρ 51 18 ≤ 10 := hT.2 51 18
    have h3' : ρ 51 18 = l + 1 + (L.length : Int) := by rw [h3, List.length_cons]; omega
    obtain ⟨v1, v2, v3, v4⟩ := h2
    have hT2 := TI_mdL hT v1 v2 v3
    obtain ⟨c1, c2, c3, c4⟩ := mdL_num k N ρ v1
    have k5 : mdL k N ρ 51 18 = ρ 51 18 := mdL_keep k N ρ (by unfold stM; omega)
    have k59 : mdL k N ρ 59 = ρ 59 := funext fun j => mdL_keep k N ρ (by unfold stM; omega)
    rw [b136_12 ρ τ l t hT.1 ⟨by omega, by omega⟩, if_neg (by omega), m_doLine hT ⟨h0, by omega⟩ v1 h1.1.1 h1.1.2 v2 v3, b136_28 _ τ l t hT2.1 ⟨by omega, by omega⟩]
    refine m_lines L (l + 1) (mdL k N ρ) t hT2 (by omega) (HM_keep k59 L _ h1.2) (by rw [c1, c2, c3, c4]; exact v4) (by rw [k5]; exact h3') (fun z1 z2 => ?_)
    rw [k5]
    exact H z1 z2
end LR
