/-! the class's lines and the reference's -/
def RLn (σ ρ : rm) : Prop :=
  σ 1 1 = ρ 51 0 ∧ σ 1 2 = ρ 51 3 ∧ σ 11 0 = 0 ∧ (∀ h, 1 ≤ h → h < 10 → σ 11 h = ρ 52 h) ∧ (∀ h, 0 ≤ h → h < 10 → σ 12 h = ρ 53 h) ∧
  (∀ q, 0 ≤ q → q < ρ 51 3 → σ 13 q = ρ 54 (3 * q) ∧ σ 14 q = ρ 54 (3 * q + 1) ∧ σ 15 q = ρ 54 (3 * q + 2) ∧ ρ 54 (3 * q) < ρ 51 0 ∧ ρ 54 (3 * q + 1) < ρ 51 0 ∧ ρ 54 (3 * q) ≠ ρ 54 (3 * q + 1)) ∧
  RDo (ρ 51 0) (σ 2 4) (ρ 51 5) (σ 27) (σ 28) (σ 29) (ρ 55) ∧ RSo (ρ 51 0) (σ 3 0) (ρ 51 7) (σ 32) (σ 33) (σ 34) (σ 35) (σ 36) (ρ 56)
theorem rl_step {σ ρ : rm} {k : Int} {N : Int → Int} (h : RLn σ ρ) (hw : 0 ≤ ρ 51 3 ∧ 0 ≤ ρ 51 5 ∧ 0 ≤ ρ 51 7) (hk : 1 ≤ k ∧ k ≤ 7) (hP : PN k (ρ 51 0) N (nOf k)) : RLn (clL k N σ) (mdL k N ρ) := by
  obtain ⟨p1, p2, p3, p4, p5, p6⟩ := PN_k hP
  obtain ⟨a1, a2, a3, a4, a5, a6, ⟨a7, a8⟩, ⟨a9, b1⟩⟩ := h
  rcases (show k = 1 ∨ k = 2 ∨ k = 3 ∨ k = 4 ∨ k = 5 ∨ k = 6 ∨ k = 7 by omega) with rfl | rfl | rfl | rfl | rfl | rfl | rfl
  · have := p1 rfl
    have e1 : clL 1 N σ = rup (rup (mxH (rup (rup σ 1 1 (N 0)) 1 2 0) 10) 2 4 0) 3 0 0 := rfl
    have e2 : mdL 1 N ρ = rup (rup (rup (rup (mxM ρ 10) 51 3 0) 51 5 0) 51 7 0) 51 0 (N 0) := rfl
    rw [e1, e2]
    simp only [RLn, RDo, RSo, rup, mxH, mxM, mxS, Nat.reduceEqDiff, Int.reduceEq, eq_self, false_and, true_and, and_true, and_false, ↓reduceIte]
    refine ⟨?_, fun q q1 q2 => ?_, fun q q1 q2 => ?_, fun q q1 q2 => ?_, fun q q1 q2 => ?_, fun q q1 q2 => ?_⟩
    · (repeat' split) <;> omega
    · (repeat' split) <;> omega
    · (repeat' split) <;> omega
    · omega
    · omega
    · omega
  · have := p2 rfl
    have e1 : clL 2 N σ = rup σ 11 (N 0) (N 1) := rfl
    have e2 : mdL 2 N ρ = rup ρ 52 (N 0) (N 1) := rfl
    rw [e1, e2]
    simp only [RLn, RDo, RSo, rup, mxH, mxM, mxS, Nat.reduceEqDiff, Int.reduceEq, eq_self, false_and, true_and, and_true, and_false, ↓reduceIte]
    refine ⟨a1, a2, ?_, fun q q1 q2 => ?_, a5, a6, ⟨a7, a8⟩, ⟨a9, b1⟩⟩
    · (repeat' split) <;> omega
    · have := a4 q q1 q2
      (repeat' split) <;> omega
  · have := p3 rfl
    have e1 : clL 3 N σ = rup σ 12 (N 0) (N 1) := rfl
    have e2 : mdL 3 N ρ = rup ρ 53 (N 0) (N 1) := rfl
    rw [e1, e2]
    simp only [RLn, RDo, RSo, rup, mxH, mxM, mxS, Nat.reduceEqDiff, Int.reduceEq, eq_self, false_and, true_and, and_true, and_false, ↓reduceIte]
    refine ⟨a1, a2, a3, a4, fun q q1 q2 => ?_, a6, ⟨a7, a8⟩, ⟨a9, b1⟩⟩
    have := a5 q q1 q2
    (repeat' split) <;> omega
  · have := p4 rfl
    have e1 : clL 4 N σ = rup (rup (rup (rup σ 13 (σ 1 2) (N 0)) 14 (σ 1 2) (N 1)) 15 (σ 1 2) (N 2)) 1 2 (σ 1 2 + 1) := rfl
    have e2 : mdL 4 N ρ = rup (rup (rup (rup ρ 54 (3 * ρ 51 3) (N 0)) 54 (3 * ρ 51 3 + 1) (N 1)) 54 (3 * ρ 51 3 + 2) (N 2)) 51 3 (ρ 51 3 + 1) := rfl
    rw [e1, e2]
    simp only [RLn, RDo, RSo, rup, mxH, mxM, mxS, Nat.reduceEqDiff, Int.reduceEq, eq_self, false_and, true_and, and_true, and_false, ↓reduceIte]
    refine ⟨a1, by omega, a3, a4, a5, fun q q1 q2 => ?_, ⟨a7, a8⟩, ⟨a9, b1⟩⟩
    rw [a2]
    by_cases c : q = ρ 51 3
    · rw [if_pos c, if_pos c, if_pos c, if_neg (by omega), if_neg (by omega), if_pos (by omega), if_neg (by omega), if_pos (by omega), if_pos (by omega)]
      omega
    · have := a6 q q1 (by omega)
      rw [if_neg c, if_neg c, if_neg c, if_neg (by omega), if_neg (by omega), if_neg (by omega), if_neg (by omega), if_neg (by omega), if_neg (by omega), if_neg (by omega), if_neg (by omega), if_neg (by omega)]
      exact this
  · have := p5 rfl
    have e1 : clL 5 N σ = rup (rup (rup (rup σ 27 (σ 2 4) (N 0)) 28 (σ 2 4) (N 1)) 29 (σ 2 4) (N 2)) 2 4 (σ 2 4 + 1) := rfl
    have e2 : mdL 5 N ρ = rup (rup (rup (rup ρ 55 (3 * ρ 51 5) (N 0)) 55 (3 * ρ 51 5 + 1) (N 1)) 55 (3 * ρ 51 5 + 2) (N 2)) 51 5 (ρ 51 5 + 1) := rfl
    rw [e1, e2]
    simp only [RLn, RDo, RSo, rup, mxH, mxM, mxS, Nat.reduceEqDiff, Int.reduceEq, eq_self, false_and, true_and, and_true, and_false, ↓reduceIte]
    refine ⟨a1, a2, a3, a4, a5, a6, ⟨by omega, fun q q1 q2 => ?_⟩, ⟨a9, b1⟩⟩
    rw [a7]
    by_cases c : q = ρ 51 5
    · rw [if_pos c, if_pos c, if_pos c, if_neg (by omega), if_neg (by omega), if_pos (by omega), if_neg (by omega), if_pos (by omega), if_pos (by omega)]
      omega
    · have := a8 q q1 (by omega)
      rw [if_neg c, if_neg c, if_neg c, if_neg (by omega), if_neg (by omega), if_neg (by omega), if_neg (by omega), if_neg (by omega), if_neg (by omega), if_neg (by omega), if_neg (by omega), if_neg (by omega)]
      exact this
  · have := p6 rfl
    have e1 : clL 6 N σ = rup (rup (rup (rup (rup (rup σ 32 (σ 3 0) (N 0)) 33 (σ 3 0) (N 1)) 34 (σ 3 0) (N 2)) 35 (σ 3 0) (N 3)) 36 (σ 3 0) (N 4)) 3 0 (σ 3 0 + 1) := rfl
    have e2 : mdL 6 N ρ = rup (mxS ρ (ρ 51 7) N 5) 51 7 (ρ 51 7 + 1) := rfl
    rw [e1, e2]
    simp only [RLn, RDo, RSo, rup, mxH, mxM, mxS, Nat.reduceEqDiff, Int.reduceEq, eq_self, false_and, true_and, and_true, and_false, ↓reduceIte]
    refine ⟨a1, a2, a3, a4, a5, a6, ⟨a7, a8⟩, ⟨by omega, fun q q1 q2 => ?_⟩⟩
    rw [a9]
    by_cases c : q = ρ 51 7
    · rw [if_pos c, if_pos c, if_pos c, if_pos c, if_pos c, if_pos (by omega), if_pos (by omega), if_pos (by omega), if_pos (by omega), if_pos (by omega), show 5 * q - 5 * ρ 51 7 = 0 by omega, show 5 * q + 1 - 5 * ρ 51 7 = 1 by omega, show 5 * q + 2 - 5 * ρ 51 7 = 2 by omega, show 5 * q + 3 - 5 * ρ 51 7 = 3 by omega, show 5 * q + 4 - 5 * ρ 51 7 = 4 by omega]
      omega
    · have := b1 q q1 (by omega)
      rw [if_neg c, if_neg c, if_neg c, if_neg c, if_neg c, if_neg (by omega), if_neg (by omega), if_neg (by omega), if_neg (by omega), if_neg (by omega)]
      exact this
  · have e1 : clL 7 N σ = rup (rup σ 2 4 0) 3 0 0 := rfl
    have e2 : mdL 7 N ρ = rup (rup ρ 51 5 0) 51 7 0 := rfl
    rw [e1, e2]
    simp only [RLn, RDo, RSo, rup, mxH, mxM, mxS, Nat.reduceEqDiff, Int.reduceEq, eq_self, false_and, true_and, and_true, and_false, ↓reduceIte]
    exact ⟨a1, a2, a3, a4, a5, a6, fun q q1 q2 => by omega, fun q q1 q2 => by omega⟩
theorem rl_all : ∀ (L : List (Int × (Int → Int))) (σ ρ : rm), RLn σ ρ → TI ρ → VL (ρ 51 0) (ρ 51 3) (ρ 51 5) (ρ 51 7) L → RLn (clA L σ) (mdA L ρ) ∧ TI (mdA L ρ)
  | [], σ, ρ, h, hT, _ => ⟨h, hT⟩
  | (k, N) :: L, σ, ρ, h, hT, h2 => by
    obtain ⟨v1, v2, v3, v4⟩ := h2
    have q2 : 0 ≤ ρ 51 3 ∧ ρ 51 3 ≤ 8 := hT.2 51 3
    have q3 : 0 ≤ ρ 51 5 ∧ ρ 51 5 ≤ 10 := hT.2 51 5
    have q4 : 0 ≤ ρ 51 7 ∧ ρ 51 7 ≤ 6 := hT.2 51 7
    obtain ⟨c1, c2, c3, c4⟩ := mdL_num k N ρ v1
    exact rl_all L (clL k N σ) (mdL k N ρ) (rl_step h ⟨q2.1, q3.1, q4.1⟩ v1 v3) (TI_mdL hT v1 v2 v3) (by rw [c1, c2, c3, c4]; exact v4)
theorem clA_keep : ∀ (L : List (Int × (Int → Int))) (ρ : rm) {a : Nat} (j : Int), ¬ stC a → clA L ρ a j = ρ a j
  | [], ρ, a, j, _ => rfl
  | (k, N) :: L, ρ, a, j, h => (clA_keep L (clL k N ρ) j h).trans (clL_keep k N ρ j h)
theorem mdA_keep : ∀ (L : List (Int × (Int → Int))) (ρ : rm) {a : Nat} {j : Int}, ¬ (stM a ∧ ¬ (a = 51 ∧ (j ≠ 0 ∧ j ≠ 3 ∧ j ≠ 5 ∧ j ≠ 7))) → mdA L ρ a j = ρ a j
  | [], ρ, a, j, _ => rfl
  | (k, N) :: L, ρ, a, j, h => (mdA_keep L (mdL k N ρ) h).trans (mdL_keep k N ρ h)
/-- the class's side counts by its lines' cells alone -/
theorem RLn.cls {σ σ' ρ : rm} (h : RLn σ ρ) (hs : ∀ a j, stC a → ¬ (a = 3 ∧ j ≠ 0) → σ' a j = σ a j) : RLn σ' ρ := by
  obtain ⟨a1, a2, a3, a4, a5, a6, ⟨a7, a8⟩, ⟨a9, b1⟩⟩ := h
  have e : ∀ a, stC a → a ≠ 3 → σ' a = σ a := fun a ha hb => funext fun j => hs a j ha (fun z => hb z.1)
  unfold RLn RDo RSo
  rw [e 1 (by unfold stC; omega) (by decide), e 2 (by unfold stC; omega) (by decide), e 11 (by unfold stC; omega) (by decide), e 12 (by unfold stC; omega) (by decide), e 13 (by unfold stC; omega) (by decide), e 14 (by unfold stC; omega) (by decide), e 15 (by unfold stC; omega) (by decide), e 27 (by unfold stC; omega) (by decide), e 28 (by unfold stC; omega) (by decide), e 29 (by unfold stC; omega) (by decide), e 32 (by unfold stC; omega) (by decide), e 33 (by unfold stC; omega) (by decide), e 34 (by unfold stC; omega) (by decide), e 35 (by unfold stC; omega) (by decide), e 36 (by unfold stC; omega) (by decide), hs 3 0 (by unfold stC; omega) (by omega)]
  exact ⟨a1, a2, a3, a4, a5, a6, ⟨a7, a8⟩, ⟨a9, b1⟩⟩
theorem RLn.mod {σ ρ ρ' : rm} (h : RLn σ ρ) (hs : ∀ a j, stM a → ¬ (a = 51 ∧ ¬ (j = 0 ∨ j = 3 ∨ j = 5 ∨ j = 7)) → ρ' a j = ρ a j) : RLn σ ρ' := by
  obtain ⟨a1, a2, a3, a4, a5, a6, ⟨a7, a8⟩, ⟨a9, b1⟩⟩ := h
  have e : ∀ a, stM a → a ≠ 51 → ρ' a = ρ a := fun a ha hb => funext fun j => hs a j ha (fun z => hb z.1)
  unfold RLn RDo RSo
  rw [e 52 (by unfold stM; omega) (by decide), e 53 (by unfold stM; omega) (by decide), e 54 (by unfold stM; omega) (by decide), e 55 (by unfold stM; omega) (by decide), e 56 (by unfold stM; omega) (by decide), hs 51 0 (by unfold stM; omega) (by omega), hs 51 3 (by unfold stM; omega) (by omega), hs 51 5 (by unfold stM; omega) (by omega), hs 51 7 (by unfold stM; omega) (by omega)]
  exact ⟨a1, a2, a3, a4, a5, a6, ⟨a7, a8⟩, ⟨a9, b1⟩⟩
