/-! walked -/
theorem lpI {S : Type} {P : Int → S → Prop} {inv : Int → S → Prop} {f : Int → S → S} {n : Int}
    (hs : ∀ i s, i < n → inv i s → P (i + 1) (f i s) → P i s)
    (hi : ∀ i s, i < n → inv i s → inv (i + 1) (f i s)) :
    ∀ (d : Nat) (i : Int) (s : S), i + d = n → inv i s → (inv n (fo f i d s) → P n (fo f i d s)) → P i s
  | 0, i, s, h1, h2, h3 => by
    have e : i = n := by omega
    subst e
    exact h3 h2
  | d + 1, i, s, h1, h2, h3 => hs i s (by omega) h2 (lpI hs hi d (i + 1) (f i s) (by omega) (hi i s (by omega) h2) h3)
def wkA (r dm : Int → Int) (i a : Int) : Int := a + (if r i = r (i - 1) then 1 else dm (10 * r (i - 1) + r i))
def wkD (r lt : Int → Int) (i a : Int) : Int := (a - sumR lt 1 (r i).toNat) / 1440
def wkF (r lt dm : Int → Int) (i : Int) (s : Int × Int × Int) : Int × Int × Int :=
  (wkA r dm i s.1, s.2.1 + (if wkD r lt (i - 1) s.1 < wkD r lt i (wkA r dm i s.1) then 1 else 0), s.2.2 + (if wkD r lt i (wkA r dm i s.1) < wkD r lt (i - 1) s.1 then 1 else 0))
def wkI (i : Int) (s : Int × Int × Int) : Prop := 1 ≤ i ∧ i ≤ 12 ∧ 0 ≤ s.1 ∧ s.1 ≤ 9999 + 891 * i ∧ 0 ≤ s.2.1 ∧ s.2.1 < i ∧ 0 ≤ s.2.2 ∧ s.2.2 < i
section WK
variable {ρ : rm} {τ : Int64} {Q : Option Value → mm → Prop}
theorem RR.st (h : RR ρ) {k : Int} (h1 : 0 ≤ k ∧ k < ρ 51 28) : ρ 42 k = ρ 62 k ∧ 0 ≤ ρ 62 k ∧ ρ 62 k < ρ 51 0 ∧ ρ 62 k ≤ 9 := by
  have h2 := h.K.2 k h1.1 h1.2
  have h3 : 0 ≤ ρ 62 k ∧ ρ 62 k ≤ 9 := h.1.2 62 k
  omega
theorem wk_bd (h : RR ρ) {i : Int} (h1 : 1 ≤ i ∧ i < ρ 51 28) (a : Int) : a ≤ wkA (ρ 62) (ρ 57) i a ∧ wkA (ρ 62) (ρ 57) i a ≤ a + 891 := by
  have s1 := h.st (k := i) (by omega)
  have s2 := h.st (k := i - 1) (by omega)
  have s3 := h.d8 (a := ρ 62 (i - 1)) (b := ρ 62 i) (by omega) (by omega)
  have s4 : 0 ≤ ρ 57 (10 * ρ 62 (i - 1) + ρ 62 i) ∧ _ := h.1.2 57 (10 * ρ 62 (i - 1) + ρ 62 i)
  unfold wkA
  split <;> omega
theorem wk_keep (h : RR ρ) : ∀ i s, i < ρ 51 28 → wkI i s → wkI (i + 1) (wkF (ρ 62) (ρ 52) (ρ 57) i s) := by
  rintro i ⟨x, y, z⟩ h1 ⟨h2, h3, h4, h5, h6, h7, h8, h9⟩
  have hn : 0 ≤ ρ 51 28 ∧ ρ 51 28 ≤ 12 := h.1.2 51 28
  have := wk_bd h (i := i) ⟨h2, h1⟩ x
  dsimp only at h4 h5 h6 h7 h8 h9
  unfold wkI wkF
  dsimp only
  refine ⟨by omega, by omega, by omega, by omega, ?_, ?_, ?_, ?_⟩ <;> (repeat' split) <;> omega
theorem wk_off (h : RR ρ) {k : Int} (h1 : 0 ≤ k ∧ k < ρ 51 28) : ρ 10 (ρ 62 k) = sumR (ρ 52) 1 (ρ 62 k).toNat := by
  have := h.st h1
  exact h.off (a := ρ 62 k) (by omega) (by omega)
def wkM (ρ ρ' : rm) (s : Int × Int × Int) : Prop := TI ρ' ∧ Same ρ ρ' ∧ ρ' 7 1 = s.1 ∧ ρ' 7 2 = s.2.1 ∧ ρ' 7 3 = s.2.2
theorem wkM_up (ρ : rm) {ρ' : rm} {s : Int × Int × Int} (h : wkM ρ ρ' s) {x : Int} (h1 : 0 ≤ x ∧ x ≤ 200000) : wkM ρ (rup ρ' 7 1 x) (x, s.2.1, s.2.2) := by
  obtain ⟨a, b, c, d, e⟩ := h
  refine ⟨TI_up a 7 1 (x := x) (show 0 ≤ x ∧ x ≤ 200000 by omega) (by omega), b.up x (by unfold scr; omega), rup_same _ _ _ _, ?_, ?_⟩
  · rw [rup_sl (by decide)]; exact d
  · rw [rup_sl (by decide)]; exact e
theorem wkM_up2 (ρ : rm) {ρ' : rm} {s : Int × Int × Int} (h : wkM ρ ρ' s) {x : Int} (h1 : 0 ≤ x ∧ x ≤ 12) : wkM ρ (rup ρ' 7 2 x) (s.1, x, s.2.2) := by
  obtain ⟨a, b, c, d, e⟩ := h
  refine ⟨TI_up a 7 2 (x := x) (show 0 ≤ x ∧ x ≤ 12 by omega) (by omega), b.up x (by unfold scr; omega), ?_, rup_same _ _ _ _, ?_⟩
  · rw [rup_sl (by decide)]; exact c
  · rw [rup_sl (by decide)]; exact e
theorem wkM_up3 (ρ : rm) {ρ' : rm} {s : Int × Int × Int} (h : wkM ρ ρ' s) {x : Int} (h1 : 0 ≤ x ∧ x ≤ 12) : wkM ρ (rup ρ' 7 3 x) (s.1, s.2.1, x) := by
  obtain ⟨a, b, c, d, e⟩ := h
  refine ⟨TI_up a 7 3 (x := x) (show 0 ≤ x ∧ x ≤ 12 by omega) (by omega), b.up x (by unfold scr; omega), ?_, ?_, rup_same _ _ _ _⟩
  · rw [rup_sl (by decide)]; exact c
  · rw [rup_sl (by decide)]; exact d
theorem c_follow (h : RR ρ) {a : Int} (ha : 0 ≤ a ∧ a ≤ 9999) (hn1 : 1 ≤ ρ 51 28)
    (hQ : ∀ ρ', wkM ρ ρ' (fo (wkF (ρ 62) (ρ 52) (ρ 57)) 1 (ρ 51 28 - 1).toNat (a, 0, 0)) → Q none (toM ρ' τ)) : G 74 0 [some (.ref 7), some (vI a)] [] (toM ρ τ) Q := by
  have hT := h.1
  have hn : 0 ≤ ρ 51 28 ∧ ρ 51 28 ≤ 12 := h.1.2 51 28
  have k1 : ρ 7 0 = ρ 51 28 := h.K.1
  rw [s74 ρ τ a hT ⟨by omega, by omega⟩]
  refine lpI (P := fun i s => ∀ ρ' t, wkM ρ ρ' s → G 74 17 (some (.ref 7) :: some (vI a) :: some (vI i) :: t) [] (toM ρ' τ) Q) (inv := wkI) (n := ρ 51 28) (f := wkF (ρ 62) (ρ 52) (ρ 57)) ?_ (wk_keep h) (ρ 51 28 - 1).toNat 1 (a, 0, 0) (by omega) (by unfold wkI; dsimp only; omega) ?_ _ _ (wkM_up3 ρ (wkM_up2 ρ (wkM_up ρ (s := (ρ 7 1, ρ 7 2, ρ 7 3)) ⟨hT, Same.refl ρ, rfl, rfl, rfl⟩ (x := a) (by omega)) (x := 0) (by omega)) (x := 0) (by omega))
  · rintro i ⟨x, y, z⟩ h1 h2 H ρ' t hM
    have hM' := hM
    obtain ⟨hT', hS, m1, m2, m3⟩ := hM'
    obtain ⟨i1, i2, i3, i4, i5, i6, i7, i8⟩ := h2
    dsimp only at i3 i4 i5 i6 i7 i8 m1 m2 m3
    have bd := wk_bd h (i := i) ⟨i1, h1⟩ x
    have s1 := h.st (k := i) (by omega)
    have s2 := h.st (k := i - 1) (by omega)
    have o1 := wk_off h (k := i) (by omega)
    have o2 := wk_off h (k := i - 1) (by omega)
    have g1 := h.gr (a := ρ 62 (i - 1)) (b := ρ 62 i) (by omega) (by omega)
    have u1 : ρ' 7 0 = ρ 51 28 := (hS 7 0 (by unfold scr; omega)).trans k1
    have u2 : ρ' 42 = ρ 42 := hS.fn (fun j => by unfold scr; omega)
    have u3 : ρ' 10 = ρ 10 := hS.fn (fun j => by unfold scr; omega)
    have u4 := hS (17 + (ρ 62 (i - 1)).toNat) (ρ 62 i) (by unfold scr; omega)
    rw [s74_17 ρ' τ a i t hT' ⟨by omega, by omega⟩ ⟨by omega, by omega⟩, if_neg (by omega), u2, u3, m1, m2, m3, s1.1, s2.1, o1, o2, u4, g1]
    have H2 : ∀ ρ2 t2 x' y' z', wkM ρ ρ2 (x', y', z') → x' = wkA (ρ 62) (ρ 57) i x → y' = y + (if wkD (ρ 62) (ρ 52) (i - 1) x < wkD (ρ 62) (ρ 52) i (wkA (ρ 62) (ρ 57) i x) then 1 else 0) → z' = z + (if wkD (ρ 62) (ρ 52) i (wkA (ρ 62) (ρ 57) i x) < wkD (ρ 62) (ρ 52) (i - 1) x then 1 else 0) → G 74 17 (some (.ref 7) :: some (vI a) :: some (vI (i + 1)) :: t2) [] (toM ρ2 τ) Q := fun ρ2 t2 x' y' z' q1 q2 q3 q4 => H ρ2 t2 (by rw [q2, q3, q4] at q1; exact q1)
    unfold wkD at H2
    by_cases hE : ρ 62 i = ρ 62 (i - 1)
    · have e1 : wkA (ρ 62) (ρ 57) i x = x + 1 := by unfold wkA; rw [if_pos hE]
      rw [e1] at H2 bd
      rw [if_pos hE]
      split
      · split
        · exact H2 _ _ _ _ _ (wkM_up ρ hM (by omega)) rfl (by first | omega | (dsimp only; omega)) (by first | omega | (dsimp only; omega))
        · exact H2 _ _ _ _ _ (wkM_up3 ρ (wkM_up ρ hM (by omega)) (by omega)) rfl (by first | omega | (dsimp only; omega)) (by first | omega | (dsimp only; omega))
      · exact H2 _ _ _ _ _ (wkM_up2 ρ (wkM_up ρ hM (by omega)) (by omega)) rfl (by first | omega | (dsimp only; omega)) (by first | omega | (dsimp only; omega))
    · have e1 : wkA (ρ 62) (ρ 57) i x = x + ρ 57 (10 * ρ 62 (i - 1) + ρ 62 i) := by unfold wkA; rw [if_neg hE]
      rw [e1] at H2 bd
      rw [if_neg hE]
      split
      · split
        · exact H2 _ _ _ _ _ (wkM_up ρ hM (by omega)) rfl (by first | omega | (dsimp only; omega)) (by first | omega | (dsimp only; omega))
        · exact H2 _ _ _ _ _ (wkM_up3 ρ (wkM_up ρ hM (by omega)) (by omega)) rfl (by first | omega | (dsimp only; omega)) (by first | omega | (dsimp only; omega))
      · exact H2 _ _ _ _ _ (wkM_up2 ρ (wkM_up ρ hM (by omega)) (by omega)) rfl (by first | omega | (dsimp only; omega)) (by first | omega | (dsimp only; omega))
  · intro h2 ρ' t hM
    have u1 : ρ' 7 0 = ρ 51 28 := (hM.2.1 7 0 (by unfold scr; omega)).trans k1
    rw [s74_17 ρ' τ a _ t hM.1 ⟨by omega, by omega⟩ ⟨by omega, by omega⟩, if_pos (by omega)]
    exact hQ ρ' hM
theorem m_walked (h : RR ρ) {a w : Int} (ha : 0 ≤ a ∧ a ≤ 9999) (hw : 0 ≤ w ∧ w ≤ 2) (hn1 : 1 ≤ ρ 51 28) {s : Int × Int × Int} (hs : s = fo (wkF (ρ 62) (ρ 52) (ρ 57)) 1 (ρ 51 28 - 1).toNat (a, 0, 0)) :
    G 162 0 [some (.ref 51), some (vI a), some (vI w)] [] (toM ρ τ) Q = Q (some (vI (if w = 0 then s.1 else if w = 1 then s.2.1 else s.2.2))) (toM ρ τ) := by
  have hT := h.1
  have hn : 0 ≤ ρ 51 28 ∧ ρ 51 28 ≤ 12 := h.1.2 51 28
  generalize hX : Q (some (vI (if w = 0 then s.1 else if w = 1 then s.2.1 else s.2.2))) (toM ρ τ) = X
  rw [s162 ρ τ a w hT ⟨by omega, by omega⟩ ⟨by omega, by omega⟩, if_pos (by omega), if_pos (by omega), if_neg (by omega)]
  have s0 := h.st (k := 0) (by omega)
  have o0 := oS_rg hT (h := ρ 62 0) (by omega)
  rw [tm_div (by omega)]
  refine lp (P := fun i (s : Int × Int × Int) t => G 162 57 (some (.ref 51) :: some (vI a) :: some (vI w) :: some (vI s.1) :: some (vI (wkD (ρ 62) (ρ 52) (i - 1) s.1 + 100)) :: some (vI s.2.1) :: some (vI s.2.2) :: some (vI i) :: t) [] (toM ρ τ) Q) (inv := wkI) (n := ρ 51 28) (f := wkF (ρ 62) (ρ 52) (ρ 57)) ?_ (wk_keep h) (ρ 51 28 - 1).toNat 1 (a, 0, 0) [] (by omega) (by unfold wkI; dsimp only; omega) ?_
  · rintro i ⟨x, y, z⟩ t h1 h2 H
    obtain ⟨i1, i2, i3, i4, i5, i6, i7, i8⟩ := h2
    dsimp only at i3 i4 i5 i6 i7 i8
    have bd := wk_bd h (i := i) ⟨i1, h1⟩ x
    have s1 := h.st (k := i) (by omega)
    have s2 := h.st (k := i - 1) (by omega)
    have o1 := oS_rg hT (h := ρ 62 i) (by omega)
    have o2 := oS_rg hT (h := ρ 62 (i - 1)) (by omega)
    have d1 : wkD (ρ 62) (ρ 52) (i - 1) x = (x - oS ρ (ρ 62 (i - 1))) / 1440 := rfl
    show G 162 57 (some (.ref 51) :: some (vI a) :: some (vI w) :: some (vI x) :: some (vI (wkD (ρ 62) (ρ 52) (i - 1) x + 100)) :: some (vI y) :: some (vI z) :: some (vI i) :: t) [] (toM ρ τ) Q = _
    rw [s162_57 ρ τ a w x _ y z i t hT ⟨by omega, by omega⟩ ⟨by omega, by omega⟩ ⟨by omega, by omega⟩ ⟨by omega, by omega⟩ ⟨by omega, by omega⟩ ⟨by omega, by omega⟩ ⟨by omega, by omega⟩, if_neg (by omega)]
    have H3 : ∀ x' d' y' z' t', x' = wkA (ρ 62) (ρ 57) i x → d' = wkD (ρ 62) (ρ 52) i x' + 100 → y' = y + (if wkD (ρ 62) (ρ 52) (i - 1) x < wkD (ρ 62) (ρ 52) i (wkA (ρ 62) (ρ 57) i x) then 1 else 0) → z' = z + (if wkD (ρ 62) (ρ 52) i (wkA (ρ 62) (ρ 57) i x) < wkD (ρ 62) (ρ 52) (i - 1) x then 1 else 0) →
        G 162 57 (some (.ref 51) :: some (vI a) :: some (vI w) :: some (vI x') :: some (vI d') :: some (vI y') :: some (vI z') :: some (vI (i + 1)) :: t') [] (toM ρ τ) Q = X := fun x' d' y' z' t' q1 q2 q3 q4 => by
      rw [q2]
      have := H (x', y', z') t' (t3 q1 q3 q4)
      rw [show i + 1 - 1 = i by omega] at this
      exact this
    by_cases hE : ρ 62 i = ρ 62 (i - 1)
    · have e1 : wkA (ρ 62) (ρ 57) i x = x + 1 := by unfold wkA; rw [if_pos hE]
      rw [e1] at H3 bd
      have e2 : wkD (ρ 62) (ρ 52) i (x + 1) = (x + 1 - oS ρ (ρ 62 i)) / 1440 := rfl
      rw [if_pos hE, tm_div (by omega), ← e2]
      (repeat' split) <;> first | (exfalso; omega) | exact H3 _ _ _ _ _ rfl rfl (by omega) (by omega)
    · have e1 : wkA (ρ 62) (ρ 57) i x = x + ρ 57 (10 * ρ 62 (i - 1) + ρ 62 i) := by unfold wkA; rw [if_neg hE]
      rw [e1] at H3 bd
      have e2 : wkD (ρ 62) (ρ 52) i (x + ρ 57 (10 * ρ 62 (i - 1) + ρ 62 i)) = (x + ρ 57 (10 * ρ 62 (i - 1) + ρ 62 i) - oS ρ (ρ 62 i)) / 1440 := rfl
      rw [if_neg hE, tm_div (by omega), ← e2]
      (repeat' split) <;> first | (exfalso; omega) | exact H3 _ _ _ _ _ rfl rfl (by omega) (by omega)
  · intro h2 t'
    rw [← hs] at h2 ⊢
    obtain ⟨i1, i2, i3, i4, i5, i6, i7, i8⟩ := h2
    have s2 := h.st (k := ρ 51 28 - 1) (by omega)
    have o2 := oS_rg hT (h := ρ 62 (ρ 51 28 - 1)) (by omega)
    have d1 : wkD (ρ 62) (ρ 52) (ρ 51 28 - 1) s.1 = (s.1 - oS ρ (ρ 62 (ρ 51 28 - 1))) / 1440 := rfl
    show G 162 57 (some (.ref 51) :: some (vI a) :: some (vI w) :: some (vI s.1) :: some (vI (wkD (ρ 62) (ρ 52) (ρ 51 28 - 1) s.1 + 100)) :: some (vI s.2.1) :: some (vI s.2.2) :: some (vI (ρ 51 28)) :: t') [] (toM ρ τ) Q = _
    rw [s162_57 ρ τ a w _ _ _ _ (ρ 51 28) t' hT ⟨by omega, by omega⟩ ⟨by omega, by omega⟩ ⟨by omega, by omega⟩ ⟨by omega, by omega⟩ ⟨by omega, by omega⟩ ⟨by omega, by omega⟩ ⟨by omega, by omega⟩, if_pos (by omega), ← hX]
    (repeat' split) <;> rfl
end WK
theorem ag_walked (a w : Int) (ha : SB a) (hw : SB w) : Agree 101 162 [some (vI a), some (vI w)] := by
  intro ρ τ h
  have hT := h.1
  have hn : 0 ≤ ρ 51 28 ∧ ρ 51 28 ≤ 12 := h.1.2 51 28
  have k1 : ρ 7 0 = ρ 51 28 := h.K.1
  rw [b101_0 ρ τ a w hT.1 ha hw]
  by_cases h1 : (0 ≤ a ∧ a ≤ 9999) ∧ 0 ≤ w ∧ w ≤ 2
  · rw [if_neg (by omega), if_neg (by omega), if_neg (by omega), if_pos (by omega)]
    by_cases h2 : ρ 51 28 = 0
    · rw [if_pos (by omega)]
      refine ⟨_, by decide, rfl, ?_⟩
      rw [s162 ρ τ a w hT ha hw, if_pos (by omega), if_pos (by omega), if_pos h2]
      exact ag_end rfl h
    · rw [if_neg (by omega)]
      refine c_follow h h1.1 (by omega) (fun ρ' hM => ?_)
      generalize hs : fo (wkF (ρ 62) (ρ 52) (ρ 57)) 1 (ρ 51 28 - 1).toNat (a, 0, 0) = s at hM
      have hI : wkI (ρ 51 28) s := by
        rw [← hs]
        exact fo_inv (wk_keep h) (ρ 51 28 - 1).toNat 1 (a, 0, 0) (by omega) (by unfold wkI; dsimp only; omega)
      obtain ⟨i1, i2, i3, i4, i5, i6, i7, i8⟩ := hI
      obtain ⟨hT', hS, m1, m2, m3⟩ := hM
      have hR := RR_same h hT' hS
      have u1 : ρ' 51 28 = ρ 51 28 := hS 51 28 (by unfold scr; omega)
      have u2 : ρ' 62 = ρ 62 := hS.fn (fun j => by unfold scr; omega)
      have u3 : ρ' 52 = ρ 52 := hS.fn (fun j => by unfold scr; omega)
      have u4 : ρ' 57 = ρ 57 := hS.fn (fun j => by unfold scr; omega)
      have hs' : s = fo (wkF (ρ' 62) (ρ' 52) (ρ' 57)) 1 (ρ' 51 28 - 1).toNat (a, 0, 0) := by rw [u1, u2, u3, u4]; exact hs.symm
      rw [b101_44 ρ' τ a w [] hT'.1 ha hw, m1, m2, m3]
      (repeat' split) <;> (refine ⟨_, ⟨by omega, by omega⟩, rfl, ?_⟩; rw [m_walked hR h1.1 h1.2 (by omega) hs']; refine ag_end ?_ hR; (repeat' split) <;> first | rfl | (exfalso; omega))
  · have e : ∀ Q, G 162 0 [some (.ref 51), some (vI a), some (vI w)] [] (toM ρ τ) Q = Q (some (vI (-3))) (toM ρ τ) := fun Q => by
      rw [s162 ρ τ a w hT ha hw]
      (repeat' split) <;> first | rfl | (exfalso; omega)
    (repeat' split) <;> first | (exfalso; omega) | (refine ⟨_, by decide, rfl, ?_⟩; rw [e]; exact ag_end rfl h)
