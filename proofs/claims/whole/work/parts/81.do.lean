/-! lines done: both sides -/
theorem lpe {S : Type} {P : Int → S → List (Option Value) → Prop} {F : Int → S} {n : Int} {X : Prop}
    (hs : ∀ i t, 0 ≤ i → i < n → (∀ t', P (i + 1) (F (i + 1)) t' = X) → P i (F i) t = X) :
    ∀ (d : Nat) (i : Int) (t : List (Option Value)), 0 ≤ i → i + d = n → (∀ t', P n (F n) t' = X) → P i (F i) t = X
  | 0, i, t, h0, h1, h3 => by
    have e : i = n := by omega
    subst e
    exact h3 t
  | d + 1, i, t, h0, h1, h3 => hs i t h0 (by omega) (fun t' => lpe hs d (i + 1) t' (by omega) (by omega) h3)
theorem lpJ {S : Type} {P : Int → S → List (Option Value) → Prop} {inv : Int → S → Prop} {n : Int}
    (hs : ∀ i s t, i < n → inv i s → (∀ s' t', inv (i + 1) s' → P (i + 1) s' t') → P i s t) :
    ∀ (d : Nat) (i : Int) (s : S) (t : List (Option Value)), i + d = n → inv i s → (∀ s' t', inv n s' → P n s' t') → P i s t
  | 0, i, s, t, h1, h2, h3 => by
    have e : i = n := by omega
    subst e
    exact h3 s t h2
  | d + 1, i, s, t, h1, h2, h3 => hs i s t (by omega) h2 (fun s' t' h4 => lpJ hs d (i + 1) s' t' (by omega) h4 h3)
def mxH (ρ : rm) (i : Int) : rm := fun a j => if a = 11 ∧ 0 ≤ j ∧ j < i then (if j = 0 then 0 else 1) else if a = 12 ∧ 0 ≤ j ∧ j < i then 1 else ρ a j
def mxM (ρ : rm) (i : Int) : rm := fun a j => if a = 52 ∧ 0 ≤ j ∧ j < i then 1 else if a = 53 ∧ 0 ≤ j ∧ j < i then 1 else ρ a j
def mxS (ρ : rm) (s : Int) (N : Int → Int) (i : Int) : rm := fun a j => if a = 56 ∧ 5 * s ≤ j ∧ j < 5 * s + i then N (j - 5 * s) else ρ a j
/-- the class does a line -/
def clL (k : Int) (N : Int → Int) (ρ : rm) : rm :=
  if k = 1 then rup (rup (mxH (rup (rup ρ 1 1 (N 0)) 1 2 0) 10) 2 4 0) 3 0 0
  else if k = 2 then rup ρ 11 (N 0) (N 1)
  else if k = 3 then rup ρ 12 (N 0) (N 1)
  else if k = 4 then rup (rup (rup (rup ρ 13 (ρ 1 2) (N 0)) 14 (ρ 1 2) (N 1)) 15 (ρ 1 2) (N 2)) 1 2 (ρ 1 2 + 1)
  else if k = 5 then rup (rup (rup (rup ρ 27 (ρ 2 4) (N 0)) 28 (ρ 2 4) (N 1)) 29 (ρ 2 4) (N 2)) 2 4 (ρ 2 4 + 1)
  else if k = 6 then rup (rup (rup (rup (rup (rup ρ 32 (ρ 3 0) (N 0)) 33 (ρ 3 0) (N 1)) 34 (ρ 3 0) (N 2)) 35 (ρ 3 0) (N 3)) 36 (ρ 3 0) (N 4)) 3 0 (ρ 3 0 + 1)
  else rup (rup ρ 2 4 0) 3 0 0
/-- the reference does a line -/
def mdL (k : Int) (N : Int → Int) (ρ : rm) : rm :=
  if k = 1 then rup (rup (rup (rup (mxM ρ 10) 51 3 0) 51 5 0) 51 7 0) 51 0 (N 0)
  else if k = 2 then rup ρ 52 (N 0) (N 1)
  else if k = 3 then rup ρ 53 (N 0) (N 1)
  else if k = 4 then rup (rup (rup (rup ρ 54 (3 * ρ 51 3) (N 0)) 54 (3 * ρ 51 3 + 1) (N 1)) 54 (3 * ρ 51 3 + 2) (N 2)) 51 3 (ρ 51 3 + 1)
  else if k = 5 then rup (rup (rup (rup ρ 55 (3 * ρ 51 5) (N 0)) 55 (3 * ρ 51 5 + 1) (N 1)) 55 (3 * ρ 51 5 + 2) (N 2)) 51 5 (ρ 51 5 + 1)
  else if k = 6 then rup (mxS ρ (ρ 51 7) N 5) 51 7 (ρ 51 7 + 1)
  else rup (rup ρ 51 5 0) 51 7 0
theorem PN_k {k h : Int} {N : Int → Int} (hP : PN k h N (nOf k)) :
    (k = 1 → 2 ≤ N 0 ∧ N 0 ≤ 10) ∧ (k = 2 → 1 ≤ N 0 ∧ N 0 ≤ h - 1 ∧ 0 ≤ N 1 ∧ N 1 ≤ 999) ∧ (k = 3 → 0 ≤ N 0 ∧ N 0 ≤ h - 2 ∧ 1 ≤ N 1 ∧ N 1 ≤ 99) ∧
    (k = 4 → 0 ≤ N 0 ∧ N 0 ≤ h - 1 ∧ 0 ≤ N 1 ∧ N 1 ≤ h - 1 ∧ N 1 ≠ N 0 ∧ 1 ≤ N 2 ∧ N 2 ≤ 99) ∧ (k = 5 → 0 ≤ N 0 ∧ N 0 ≤ h - 1 ∧ 0 ≤ N 1 ∧ N 1 ≤ 1439 ∧ 0 ≤ N 2 ∧ N 2 ≤ 99) ∧
    (k = 6 → 0 ≤ N 0 ∧ N 0 ≤ h - 1 ∧ 0 ≤ N 1 ∧ N 1 ≤ 1439 ∧ N 1 + 1 ≤ N 2 ∧ N 2 ≤ 1439 ∧ 0 ≤ N 3 ∧ N 3 ≤ 99 ∧ 0 ≤ N 4 ∧ N 4 ≤ 99) := by
  refine ⟨fun e => ?_, fun e => ?_, fun e => ?_, fun e => ?_, fun e => ?_, fun e => ?_⟩
  · subst e
    have h0 := hP 0 (by decide) (by decide)
    simp only [okN, lwO, lsO, grO] at h0
    simp at h0
    omega
  · subst e
    have h0 := hP 0 (by decide) (by decide)
    have h1 := hP 1 (by decide) (by decide)
    simp only [okN, lwO, lsO, grO] at h0 h1
    simp at h0 h1
    omega
  · subst e
    have h0 := hP 0 (by decide) (by decide)
    have h1 := hP 1 (by decide) (by decide)
    simp only [okN, lwO, lsO, grO] at h0 h1
    simp at h0 h1
    omega
  · subst e
    have h0 := hP 0 (by decide) (by decide)
    have h1 := hP 1 (by decide) (by decide)
    have h2 := hP 2 (by decide) (by decide)
    simp only [okN, lwO, lsO, grO] at h0 h1 h2
    simp at h0 h1 h2
    omega
  · subst e
    have h0 := hP 0 (by decide) (by decide)
    have h1 := hP 1 (by decide) (by decide)
    have h2 := hP 2 (by decide) (by decide)
    simp only [okN, lwO, lsO, grO] at h0 h1 h2
    simp at h0 h1 h2
    omega
  · subst e
    have h0 := hP 0 (by decide) (by decide)
    have h1 := hP 1 (by decide) (by decide)
    have h2 := hP 2 (by decide) (by decide)
    have h3 := hP 3 (by decide) (by decide)
    have h4 := hP 4 (by decide) (by decide)
    simp only [okN, lwO, lsO, grO] at h0 h1 h2 h3 h4
    simp at h0 h1 h2 h3 h4
    omega
theorem TI_mxH {ρ : rm} (h : TI ρ) (i : Int) : TI (mxH ρ i) := by
  refine ⟨fun a j ha => ?_, fun a j => ?_⟩
  · have := h.1 a j ha
    unfold mxH
    (repeat' split) <;> omega
  · unfold mxH
    split
    · rename_i z
      rw [z.1]
      show (0 : Int) ≤ _ ∧ _ ≤ (999 : Int)
      split <;> omega
    · split
      · rename_i z
        rw [z.1]
        exact ⟨show (0 : Int) ≤ 1 by decide, show (1 : Int) ≤ 99 by decide⟩
      · exact h.2 a j
theorem TI_mxM {ρ : rm} (h : TI ρ) (i : Int) : TI (mxM ρ i) := by
  refine ⟨fun a j ha => ?_, fun a j => ?_⟩
  · have := h.1 a j ha
    unfold mxM
    (repeat' split) <;> omega
  · unfold mxM
    split
    · rename_i z
      rw [z.1]
      exact ⟨show (0 : Int) ≤ 1 by decide, show (1 : Int) ≤ 999 by decide⟩
    · split
      · rename_i z
        rw [z.1]
        exact ⟨show (0 : Int) ≤ 1 by decide, show (1 : Int) ≤ 99 by decide⟩
      · exact h.2 a j
theorem TI_mxS {ρ : rm} (h : TI ρ) {s : Int} {N : Int → Int} {i : Int} (hi : i ≤ 5) (h0 : 0 ≤ N 0 ∧ N 0 ≤ 9) (hN : ∀ q, 0 ≤ q → q < 5 → 0 ≤ N q ∧ N q ≤ 1439) : TI (mxS ρ s N i) := by
  refine ⟨fun a j ha => ?_, fun a j => ?_⟩
  · unfold mxS
    split
    · rename_i z
      have := hN (j - 5 * s) (by omega) (by omega)
      omega
    · exact h.1 a j ha
  · unfold mxS
    split
    · rename_i z
      rw [z.1]
      show (0 : Int) ≤ _ ∧ _ ≤ (if j % 5 = 0 then (9 : Int) else 1439)
      have q1 := hN (j - 5 * s) (by omega) (by omega)
      split
      · rename_i c
        rw [show j - 5 * s = 0 by omega]
        exact h0
      · exact q1
    · exact h.2 a j
/-- the cells that lines write -/
def stC (a : Nat) : Prop := a = 1 ∨ a = 2 ∨ a = 3 ∨ a = 11 ∨ a = 12 ∨ a = 13 ∨ a = 14 ∨ a = 15 ∨ a = 27 ∨ a = 28 ∨ a = 29 ∨ a = 32 ∨ a = 33 ∨ a = 34 ∨ a = 35 ∨ a = 36
def stM (a : Nat) : Prop := a = 51 ∨ a = 52 ∨ a = 53 ∨ a = 54 ∨ a = 55 ∨ a = 56
theorem clL_keep (k : Int) (N : Int → Int) (ρ : rm) {a : Nat} (j : Int) (h : ¬ stC a) : clL k N ρ a j = ρ a j := by
  unfold stC at h
  unfold clL
  (repeat' split) <;> (simp only [rup, mxH]; (repeat' split) <;> first | rfl | (exfalso; omega))
theorem mdL_keep (k : Int) (N : Int → Int) (ρ : rm) {a : Nat} {j : Int} (h : ¬ (stM a ∧ ¬ (a = 51 ∧ (j ≠ 0 ∧ j ≠ 3 ∧ j ≠ 5 ∧ j ≠ 7)))) : mdL k N ρ a j = ρ a j := by
  unfold stM at h
  unfold mdL
  (repeat' split) <;> (simp only [rup, mxM, mxS]; (repeat' split) <;> first | rfl | (exfalso; omega))
theorem clL_num (k : Int) (N : Int → Int) (ρ : rm) (hk : 1 ≤ k ∧ k ≤ 7) : clL k N ρ 1 1 = nh k (N 0) (ρ 1 1) ∧ clL k N ρ 1 2 = nw k (ρ 1 2) ∧ clL k N ρ 2 4 = nd k (ρ 2 4) ∧ clL k N ρ 3 0 = ns k (ρ 3 0) := by
  rcases (show k = 1 ∨ k = 2 ∨ k = 3 ∨ k = 4 ∨ k = 5 ∨ k = 6 ∨ k = 7 by omega) with rfl | rfl | rfl | rfl | rfl | rfl | rfl <;> simp [clL, rup, mxH, nh, nw, nd, ns]
theorem mdL_num (k : Int) (N : Int → Int) (ρ : rm) (hk : 1 ≤ k ∧ k ≤ 7) : mdL k N ρ 51 0 = nh k (N 0) (ρ 51 0) ∧ mdL k N ρ 51 3 = nw k (ρ 51 3) ∧ mdL k N ρ 51 5 = nd k (ρ 51 5) ∧ mdL k N ρ 51 7 = ns k (ρ 51 7) := by
  rcases (show k = 1 ∨ k = 2 ∨ k = 3 ∨ k = 4 ∨ k = 5 ∨ k = 6 ∨ k = 7 by omega) with rfl | rfl | rfl | rfl | rfl | rfl | rfl <;> simp [mdL, rup, mxM, mxS, nh, nw, nd, ns]
theorem TI_clL {ρ : rm} {k : Int} {N : Int → Int} (hT : TI ρ) (hk : 1 ≤ k ∧ k ≤ 7) (hf : ¬ fuL k (ρ 1 2) (ρ 2 4) (ρ 3 0)) (hP : PN k (ρ 1 1) N (nOf k)) : TI (clL k N ρ) := by
  have q1 : 2 ≤ ρ 1 1 ∧ ρ 1 1 ≤ 10 := hT.2 1 1
  have q2 : 0 ≤ ρ 1 2 ∧ ρ 1 2 ≤ 8 := hT.2 1 2
  have q3 : 0 ≤ ρ 2 4 ∧ ρ 2 4 ≤ 10 := hT.2 2 4
  have q4 : 0 ≤ ρ 3 0 ∧ ρ 3 0 ≤ 6 := hT.2 3 0
  obtain ⟨p1, p2, p3, p4, p5, p6⟩ := PN_k hP
  unfold clL
  split
  · rename_i e
    have := p1 e
    refine TI_up (TI_up (TI_mxH (TI_up (TI_up hT 1 1 ?_ ?_) 1 2 ?_ ?_) 10) 2 4 ?_ ?_) 3 0 ?_ ?_
    · exact this
    · omega
    · exact ⟨by decide, by decide⟩
    · omega
    · exact ⟨by decide, by decide⟩
    · omega
    · exact ⟨by decide, by decide⟩
    · omega
  split
  · rename_i e
    have := p2 e
    exact TI_up hT 11 _ (show 0 ≤ N 1 ∧ N 1 ≤ 999 by omega) (by omega)
  split
  · rename_i e
    have := p3 e
    exact TI_up hT 12 _ (show 0 ≤ N 1 ∧ N 1 ≤ 99 by omega) (by omega)
  split
  · rename_i e
    have := p4 e
    have hw : ρ 1 2 < 8 := by omega
    exact TI_up (TI_up (TI_up (TI_up hT 13 _ (show 0 ≤ N 0 ∧ N 0 ≤ 9 by omega) (by omega)) 14 _ (show 0 ≤ N 1 ∧ N 1 ≤ 9 by omega) (by omega)) 15 _ (show 0 ≤ N 2 ∧ N 2 ≤ 99 by omega) (by omega)) 1 2 (show 0 ≤ ρ 1 2 + 1 ∧ ρ 1 2 + 1 ≤ 8 by omega) (by omega)
  split
  · rename_i e
    have := p5 e
    have hw : ρ 2 4 < 10 := by omega
    exact TI_up (TI_up (TI_up (TI_up hT 27 _ (show 0 ≤ N 0 ∧ N 0 ≤ 9 by omega) (by omega)) 28 _ (show 0 ≤ N 1 ∧ N 1 ≤ 1439 by omega) (by omega)) 29 _ (show 0 ≤ N 2 ∧ N 2 ≤ 99 by omega) (by omega)) 2 4 (show 0 ≤ ρ 2 4 + 1 ∧ ρ 2 4 + 1 ≤ 10 by omega) (by omega)
  split
  · rename_i e
    have := p6 e
    have hw : ρ 3 0 < 6 := by omega
    exact TI_up (TI_up (TI_up (TI_up (TI_up (TI_up hT 32 _ (show 0 ≤ N 0 ∧ N 0 ≤ 9 by omega) (by omega)) 33 _ (show 0 ≤ N 1 ∧ N 1 ≤ 1439 by omega) (by omega)) 34 _ (show 0 ≤ N 2 ∧ N 2 ≤ 1439 by omega) (by omega)) 35 _ (show 0 ≤ N 3 ∧ N 3 ≤ 99 by omega) (by omega)) 36 _ (show 0 ≤ N 4 ∧ N 4 ≤ 99 by omega) (by omega)) 3 0 (show 0 ≤ ρ 3 0 + 1 ∧ ρ 3 0 + 1 ≤ 6 by omega) (by omega)
  · exact TI_up (TI_up hT 2 4 ⟨by decide, by decide⟩ (by omega)) 3 0 ⟨by decide, by decide⟩ (by omega)
theorem TI_mdL {ρ : rm} {k : Int} {N : Int → Int} (hT : TI ρ) (hk : 1 ≤ k ∧ k ≤ 7) (hf : ¬ fuL k (ρ 51 3) (ρ 51 5) (ρ 51 7)) (hP : PN k (ρ 51 0) N (nOf k)) : TI (mdL k N ρ) := by
  have q1 : 2 ≤ ρ 51 0 ∧ ρ 51 0 ≤ 10 := hT.2 51 0
  have q2 : 0 ≤ ρ 51 3 ∧ ρ 51 3 ≤ 8 := hT.2 51 3
  have q3 : 0 ≤ ρ 51 5 ∧ ρ 51 5 ≤ 10 := hT.2 51 5
  have q4 : 0 ≤ ρ 51 7 ∧ ρ 51 7 ≤ 6 := hT.2 51 7
  obtain ⟨p1, p2, p3, p4, p5, p6⟩ := PN_k hP
  unfold mdL
  split
  · rename_i e
    have := p1 e
    refine TI_up (TI_up (TI_up (TI_up (TI_mxM hT 10) 51 3 ?_ ?_) 51 5 ?_ ?_) 51 7 ?_ ?_) 51 0 ?_ ?_
    · exact ⟨by decide, by decide⟩
    · omega
    · exact ⟨by decide, by decide⟩
    · omega
    · exact ⟨by decide, by decide⟩
    · omega
    · exact this
    · omega
  split
  · rename_i e
    have := p2 e
    exact TI_up hT 52 _ (show 0 ≤ N 1 ∧ N 1 ≤ 999 by omega) (by omega)
  split
  · rename_i e
    have := p3 e
    exact TI_up hT 53 _ (show 0 ≤ N 1 ∧ N 1 ≤ 99 by omega) (by omega)
  split
  · rename_i e
    have := p4 e
    have hw : ρ 51 3 < 8 := by omega
    refine TI_up (TI_up (TI_up (TI_up hT 54 _ ?_ (by omega)) 54 _ ?_ (by omega)) 54 _ ?_ (by omega)) 51 3 (show 0 ≤ ρ 51 3 + 1 ∧ ρ 51 3 + 1 ≤ 8 by omega) (by omega)
    · show 0 ≤ N 0 ∧ N 0 ≤ if (3 * ρ 51 3) % 3 = 2 then 99 else 9
      rw [if_neg (by omega)]; omega
    · show 0 ≤ N 1 ∧ N 1 ≤ if (3 * ρ 51 3 + 1) % 3 = 2 then 99 else 9
      rw [if_neg (by omega)]; omega
    · show 0 ≤ N 2 ∧ N 2 ≤ if (3 * ρ 51 3 + 2) % 3 = 2 then 99 else 9
      rw [if_pos (by omega)]; omega
  split
  · rename_i e
    have := p5 e
    have hw : ρ 51 5 < 10 := by omega
    refine TI_up (TI_up (TI_up (TI_up hT 55 _ ?_ (by omega)) 55 _ ?_ (by omega)) 55 _ ?_ (by omega)) 51 5 (show 0 ≤ ρ 51 5 + 1 ∧ ρ 51 5 + 1 ≤ 10 by omega) (by omega)
    · show 0 ≤ N 0 ∧ N 0 ≤ if (3 * ρ 51 5) % 3 = 0 then 9 else 1439
      rw [if_pos (by omega)]; omega
    · show 0 ≤ N 1 ∧ N 1 ≤ if (3 * ρ 51 5 + 1) % 3 = 0 then 9 else 1439
      rw [if_neg (by omega)]; omega
    · show 0 ≤ N 2 ∧ N 2 ≤ if (3 * ρ 51 5 + 2) % 3 = 0 then 9 else 1439
      rw [if_neg (by omega)]; omega
  split
  · rename_i e
    have := p6 e
    have hw : ρ 51 7 < 6 := by omega
    refine TI_up (TI_mxS hT (by decide) (by omega) (fun q z1 z2 => ?_)) 51 7 (show 0 ≤ ρ 51 7 + 1 ∧ ρ 51 7 + 1 ≤ 6 by omega) (by omega)
    rcases (show q = 0 ∨ q = 1 ∨ q = 2 ∨ q = 3 ∨ q = 4 by omega) with rfl | rfl | rfl | rfl | rfl <;> omega
  · exact TI_up (TI_up hT 51 5 ⟨by decide, by decide⟩ (by omega)) 51 7 ⟨by decide, by decide⟩ (by omega)
