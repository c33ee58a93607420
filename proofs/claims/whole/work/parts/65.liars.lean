/-! liars, canBe -/
def cf (ρ : rm) (i j : Int) : Prop := iab (ρ 50 i - ρ 50 j) < ρ 57 (10 * ρ 49 i + ρ 49 j)
def LI (ρ : rm) (r : Int) : Prop := (0 ≤ r ∧ r < 64) ∧ ∀ k : Nat, k < 32 → (bt r k = true ↔ ∃ i j, 0 ≤ j ∧ j < i ∧ i < ρ 51 32 ∧ ρ 48 i = k ∧ ρ 48 j = k ∧ cf ρ i j)
theorem LI_u {ρ : rm} {a b : Int} (ha : LI ρ a) (hb : LI ρ b) : a = b := by
  refine bt_ext ⟨by have := ha.1; omega, by have := ha.1; omega⟩ ⟨by have := hb.1; omega, by have := hb.1; omega⟩ (fun k hk => ?_)
  have h1 := (ha.2 k hk).trans (hb.2 k hk).symm
  cases h2 : bt a k <;> cases h3 : bt b k <;> simp_all
theorem iab_neg (a : Int) : iab (-a) = iab a := by unfold iab; split <;> split <;> omega
section LR
variable {ρ : rm} {τ : Int64} {Q : Option Value → mm → Prop}
theorem RR.si (h : RR ρ) {k : Int} (h1 : 0 ≤ k ∧ k < ρ 51 32) : ρ 48 k = ρ 64 (3 * k) ∧ ρ 49 k = ρ 64 (3 * k + 1) ∧ ρ 50 k = oS ρ (ρ 64 (3 * k + 1)) + ρ 64 (3 * k + 2) ∧ (0 ≤ ρ 64 (3 * k) ∧ ρ 64 (3 * k) ≤ 5) ∧ 0 ≤ ρ 64 (3 * k + 1) ∧ ρ 64 (3 * k + 1) < ρ 51 0 := by
  have h2 := h.G.2 k h1.1 h1.2
  have h3 := T64a h.1 k
  have h4 := T64b h.1 k
  have h5 := T64c h.1 k
  refine ⟨h2.1, h2.2.1, h2.2.2.2, h3, h4.1, h2.2.2.1⟩
theorem RR.gn (h : RR ρ) : ρ 9 0 = ρ 51 32 ∧ 0 ≤ ρ 51 32 ∧ ρ 51 32 ≤ 12 := ⟨h.G.1, h.1.2 51 32⟩
theorem cf_sy (h : RR ρ) {i j : Int} (hi : 0 ≤ i ∧ i < ρ 51 32) (hj : 0 ≤ j ∧ j < ρ 51 32) : cf ρ i j ↔ cf ρ j i := by
  have e1 := h.si hi
  have e2 := h.si hj
  have e3 := h.sy (a := ρ 49 i) (b := ρ 49 j) (by omega) (by omega)
  unfold cf
  rw [e3, show ρ 50 i - ρ 50 j = -(ρ 50 j - ρ 50 i) by omega, iab_neg]
theorem cf_ir (h : RR ρ) {i : Int} (hi : 0 ≤ i ∧ i < ρ 51 32) : ¬ cf ρ i i := by
  have e1 := h.si hi
  have e3 := h.dg (a := ρ 49 i) (by omega)
  have := iab_bd (ρ 50 i - ρ 50 i)
  unfold cf
  omega
theorem cf_gr (h : RR ρ) {i j : Int} (hi : 0 ≤ i ∧ i < ρ 51 32) (hj : 0 ≤ j ∧ j < ρ 51 32) : iab (ρ 50 i - ρ 50 j) < ρ (17 + (ρ 49 i).toNat) (ρ 49 j) ↔ cf ρ i j := by
  have e1 := h.si hi
  have e2 := h.si hj
  rw [h.gr (a := ρ 49 i) (b := ρ 49 j) (by omega) (by omega)]
  exact Iff.rfl
/-! the class -/
def lyF (ρ : rm) (i s : Int) : Int := bor s (ban (exS ρ (ρ 49 i) (ρ 50 i)) (bsh (ρ 48 i)))
def lyI (ρ : rm) (i s : Int) : Prop := 0 ≤ i ∧ (0 ≤ s ∧ s < 64) ∧ ∀ k : Nat, k < 32 → (bt s k = true ↔ ∃ a j, 0 ≤ a ∧ a < i ∧ 0 ≤ j ∧ j < ρ 51 32 ∧ ρ 48 a = k ∧ ρ 48 j = k ∧ cf ρ a j)
theorem ly_keep (h : RR ρ) : ∀ i s, i < ρ 51 32 → lyI ρ i s → lyI ρ (i + 1) (lyF ρ i s) := by
  rintro i s h1 ⟨h2, h3, h4⟩
  obtain ⟨n1, n2, n3⟩ := h.gn
  have p1 : 0 ≤ ρ 48 i ∧ ρ 48 i ≤ 5 := h.1.2 48 i
  have x1 := exS_I h.1 (ρ 49 i) (ρ 50 i)
  rw [n1] at x1
  unfold lyF
  refine ⟨by omega, bt_rg (bor_sb _ _) (n := 6) (by decide) (fun k h5 h6 => ?_), fun k hk => ?_⟩
  · rw [bt_or, bt_and, bt_up (n := 6) (by decide) h3 k h5, bt_up (n := 6) (by decide) x1.2.1 k h5]
    rfl
  · rw [bt_or, bt_and, bt_sh (by omega) hk, Bool.or_eq_true, Bool.and_eq_true, h4 k hk, x1.2.2 k hk, decide_eq_true_iff]
    constructor
    · rintro (⟨a, j, a1, a2, j1, j2, j3, j4, j5⟩ | ⟨⟨j, j1, j2, j3, j4⟩, e⟩)
      · exact ⟨a, j, a1, by omega, j1, j2, j3, j4, j5⟩
      · exact ⟨i, j, h2, by omega, j1, j2, e.symm, j4, (cf_gr h ⟨h2, h1⟩ ⟨j1, j2⟩).mp j3⟩
    · rintro ⟨a, j, a1, a2, j1, j2, j3, j4, j5⟩
      by_cases e : a = i
      · rw [e] at j3 j5
        exact Or.inr ⟨⟨j, j1, j2, (cf_gr h ⟨h2, h1⟩ ⟨j1, j2⟩).mpr j5, j4⟩, j3.symm⟩
      · exact Or.inl ⟨a, j, a1, by omega, j1, j2, j3, j4, j5⟩
theorem ly_0 (ρ : rm) : lyI ρ 0 0 := ⟨by omega, by omega, fun k hk => by
  rw [bt_0]
  constructor
  · intro z; cases z
  · rintro ⟨a, j, a1, a2, -⟩; omega⟩
theorem ly_LI (h : RR ρ) {s : Int} (hs : lyI ρ (ρ 51 32) s) : LI ρ s := by
  obtain ⟨-, h3, h4⟩ := hs
  refine ⟨h3, fun k hk => (h4 k hk).trans ⟨?_, ?_⟩⟩
  · rintro ⟨a, j, a1, a2, j1, j2, j3, j4, j5⟩
    by_cases e : j < a
    · exact ⟨a, j, j1, e, a2, j3, j4, j5⟩
    · by_cases e2 : a = j
      · rw [e2] at j5; exact absurd j5 (cf_ir h ⟨j1, j2⟩)
      · exact ⟨j, a, a1, by omega, j2, j4, j3, (cf_sy h ⟨a1, a2⟩ ⟨j1, j2⟩).mp j5⟩
  · rintro ⟨i, j, j1, j2, j3, j4, j5, j6⟩
    exact ⟨i, j, by omega, j3, j1, by omega, j4, j5, j6⟩
theorem c_lying (h : RR ρ) : ∃ r, LI ρ r ∧ ∀ (τ : Int64) (Q : Option Value → mm → Prop), G 66 0 [some (.ref 9)] [] (toM ρ τ) Q = Q (some (vI r)) (toM ρ τ) := by
  have hT := h.1
  obtain ⟨n1, n2, n3⟩ := h.gn
  have hI := fo_inv (ly_keep h) (ρ 51 32).toNat 0 0 (by omega) (ly_0 ρ)
  refine ⟨fo (lyF ρ) 0 (ρ 51 32).toNat 0, ly_LI h hI, fun τ Q => ?_⟩
  rw [s66 ρ τ hT]
  refine lp (S := Int) (P := fun i s t => G 66 4 (some (.ref 9) :: some (vI s) :: some (vI i) :: t) [] (toM ρ τ) Q) (inv := lyI ρ) (n := ρ 51 32) (f := lyF ρ) ?_ (ly_keep h) (ρ 51 32).toNat 0 0 [] (by omega) (ly_0 ρ) ?_
  · rintro i s t h1 ⟨h2, h3, h4⟩ H
    show G 66 4 (some (.ref 9) :: some (vI s) :: some (vI i) :: t) [] (toM ρ τ) Q = _
    rw [s66_4 ρ τ s i t hT ⟨by omega, by omega⟩ ⟨by omega, by omega⟩, if_neg (by omega)]
    exact H _ _ rfl
  · rintro h2 t'
    show G 66 4 (some (.ref 9) :: some (vI (fo (lyF ρ) 0 (ρ 51 32).toNat 0)) :: some (vI (ρ 51 32)) :: t') [] (toM ρ τ) Q = _
    have h3 := h2.2.1
    rw [s66_4 ρ τ _ _ t' hT ⟨by omega, by omega⟩ ⟨by omega, by omega⟩, if_pos (by omega)]
/-! the reference -/
def rc (ρ : rm) (i j : Int) : Prop := ρ 64 (3 * i) = ρ 64 (3 * j) ∧ iab (ρ 64 (3 * i + 2) + oS ρ (ρ 64 (3 * i + 1)) - ρ 64 (3 * j + 2) - oS ρ (ρ 64 (3 * j + 1))) < ρ 57 (10 * ρ 64 (3 * i + 1) + ρ 64 (3 * j + 1))
theorem rc_cf (h : RR ρ) {i j : Int} (hi : 0 ≤ i ∧ i < ρ 51 32) (hj : 0 ≤ j ∧ j < ρ 51 32) : rc ρ i j ↔ (ρ 48 i = ρ 48 j ∧ cf ρ i j) := by
  have e1 := h.si hi
  have e2 := h.si hj
  unfold rc cf
  rw [e1.1, e2.1, e1.2.1, e2.2.1, e1.2.2.1, e2.2.2.1, show ρ 64 (3 * i + 2) + oS ρ (ρ 64 (3 * i + 1)) - ρ 64 (3 * j + 2) - oS ρ (ρ 64 (3 * j + 1)) = oS ρ (ρ 64 (3 * i + 1)) + ρ 64 (3 * i + 2) - (oS ρ (ρ 64 (3 * j + 1)) + ρ 64 (3 * j + 2)) by omega]
def riI (ρ : rm) (i : Int) (b : Int) (j s : Int) : Prop := 0 ≤ j ∧ j ≤ i ∧ (0 ≤ s ∧ s < 64) ∧ ∀ k : Nat, k < 32 → (bt s k = true ↔ bt b k = true ∨ ∃ a, 0 ≤ a ∧ a < j ∧ ρ 64 (3 * i) = k ∧ rc ρ i a)
theorem m_liin (hT : TI ρ) {i b : Int} (hi : 0 ≤ i ∧ i < ρ 51 32) (hb : 0 ≤ b ∧ b < 64) {X : Prop} (t : List (Option Value))
    (H : ∀ b' t', riI ρ i b i b' → G 175 4 (some (.ref 51) :: some (vI b') :: some (vI (i + 1)) :: t') [] (toM ρ τ) Q = X) : G 175 4 (some (.ref 51) :: some (vI b) :: some (vI i) :: t) [] (toM ρ τ) Q = X := by
  have hn : 0 ≤ ρ 51 32 ∧ ρ 51 32 ≤ 12 := hT.2 51 32
  have p1 := T64a hT i
  rw [s175_4 ρ τ b i t hT ⟨by omega, by omega⟩ ⟨by omega, by omega⟩, if_neg (by omega)]
  have key : ∀ (d : Nat) (j s : Int) (t : List (Option Value)), j + d = i → riI ρ i b j s → G 175 14 (some (.ref 51) :: some (vI s) :: some (vI i) :: some (vI j) :: t) [] (toM ρ τ) Q = X := by
    intro d
    induction d with
    | zero =>
      intro j s t h1 h2
      have e : j = i := by omega
      subst e
      have h3 := h2.2.2.1
      rw [s175_14 ρ τ s j j t hT ⟨by omega, by omega⟩ ⟨by omega, by omega⟩ ⟨by omega, by omega⟩, if_pos (by omega)]
      exact H s _ h2
    | succ d ih =>
      intro j s t h1 h2
      obtain ⟨j1, j2, j3, j4⟩ := h2
      have p2 := T64a hT j
      rw [s175_14 ρ τ s i j t hT ⟨by omega, by omega⟩ ⟨by omega, by omega⟩ ⟨by omega, by omega⟩, if_neg (by omega)]
      have no : ¬ rc ρ i j → riI ρ i b (j + 1) (bor s 0) := by
        intro hc
        refine ⟨by omega, by omega, bt_rg (bor_sb _ _) (n := 6) (by decide) (fun k h5 h6 => ?_), fun k hk => ?_⟩
        · rw [bt_or, bt_up (n := 6) (by decide) j3 k h5, bt_0]; rfl
        · rw [bt_or, bt_0, Bool.or_false, j4 k hk]
          constructor
          · rintro (z | ⟨a, a1, a2, a3, a4⟩)
            · exact Or.inl z
            · exact Or.inr ⟨a, a1, by omega, a3, a4⟩
          · rintro (z | ⟨a, a1, a2, a3, a4⟩)
            · exact Or.inl z
            · by_cases e : a = j
              · rw [e] at a4; exact absurd a4 hc
              · exact Or.inr ⟨a, a1, by omega, a3, a4⟩
      have yes : rc ρ i j → riI ρ i b (j + 1) (bor s (bsh (ρ 64 (3 * i)))) := by
        intro hc
        refine ⟨by omega, by omega, bt_rg (bor_sb _ _) (n := 6) (by decide) (fun k h5 h6 => ?_), fun k hk => ?_⟩
        · rw [bt_or, bt_sh (by omega) h6, bt_up (n := 6) (by decide) j3 k h5, Bool.false_or, decide_eq_false_iff_not]
          omega
        · rw [bt_or, bt_sh (by omega) hk, Bool.or_eq_true, j4 k hk, decide_eq_true_iff]
          constructor
          · rintro ((z | ⟨a, a1, a2, a3, a4⟩) | z)
            · exact Or.inl z
            · exact Or.inr ⟨a, a1, by omega, a3, a4⟩
            · exact Or.inr ⟨j, j1, by omega, z.symm, hc⟩
          · rintro (z | ⟨a, a1, a2, a3, a4⟩)
            · exact Or.inl (Or.inl z)
            · exact Or.inr a3.symm
      split
      · rename_i c1
        split
        · rename_i c2
          exact ih (j + 1) _ _ (by omega) (no (fun z => by have := z.2; omega))
        · rename_i c2
          exact ih (j + 1) _ _ (by omega) (yes ⟨c1, by omega⟩)
      · rename_i c1
        exact ih (j + 1) _ _ (by omega) (no (fun z => c1 z.1))
  refine key i.toNat 0 b _ (by omega) ⟨by omega, by omega, hb, fun k hk => ⟨Or.inl, ?_⟩⟩
  rintro (z | ⟨a, a1, a2, -⟩)
  · exact z
  · omega
def miI (ρ : rm) (i s : Int) : Prop := (0 ≤ s ∧ s < 64) ∧ ∀ k : Nat, k < 32 → (bt s k = true ↔ ∃ a j, 0 ≤ j ∧ j < a ∧ a < i ∧ ρ 48 a = k ∧ ρ 48 j = k ∧ cf ρ a j)
theorem m_liars (h : RR ρ) {X : Prop} (H : ∀ r, LI ρ r → Q (some (vI r)) (toM ρ τ) = X) : G 175 0 [some (.ref 51)] [] (toM ρ τ) Q = X := by
  have hT := h.1
  obtain ⟨n1, n2, n3⟩ := h.gn
  rw [s175 ρ τ hT]
  have key : ∀ (d : Nat) (i s : Int) (t : List (Option Value)), 0 ≤ i → i + d = ρ 51 32 → miI ρ i s → G 175 4 (some (.ref 51) :: some (vI s) :: some (vI i) :: t) [] (toM ρ τ) Q = X := by
    intro d
    induction d with
    | zero =>
      intro i s t h0 h1 h2
      have e : i = ρ 51 32 := by omega
      subst e
      have h3 := h2.1
      rw [s175_4 ρ τ s _ t hT ⟨by omega, by omega⟩ ⟨by omega, by omega⟩, if_pos (by omega)]
      exact H s h2
    | succ d ih =>
      intro i s t h0 h1 h2
      refine m_liin hT (i := i) ⟨h0, by omega⟩ h2.1 t (fun b' t' hb => ih (i + 1) b' t' (by omega) (by omega) ?_)
      obtain ⟨-, -, g3, g4⟩ := hb
      have e1 := h.si (k := i) ⟨h0, by omega⟩
      refine ⟨g3, fun k hk => (g4 k hk).trans ?_⟩
      rw [h2.2 k hk]
      constructor
      · rintro (⟨a, j, j1, j2, j3, j4⟩ | ⟨a, a1, a2, a3, a4⟩)
        · exact ⟨a, j, j1, j2, by omega, j4⟩
        · have e2 := (rc_cf h (i := i) (j := a) ⟨h0, by omega⟩ ⟨a1, by omega⟩).mp a4
          exact ⟨i, a, a1, a2, by omega, by omega, by omega, e2.2⟩
      · rintro ⟨a, j, j1, j2, j3, j4, j5, j6⟩
        by_cases e : a = i
        · subst e
          exact Or.inr ⟨j, j1, j2, by omega, (rc_cf h (i := a) (j := j) ⟨h0, by omega⟩ ⟨j1, by omega⟩).mpr ⟨by omega, j6⟩⟩
        · exact Or.inl ⟨a, j, j1, j2, by omega, j4, j5, j6⟩
  refine key (ρ 51 32).toNat 0 0 _ (by omega) (by omega) ⟨by omega, fun k hk => ?_⟩
  rw [bt_0]
  constructor
  · intro z; cases z
  · rintro ⟨a, j, j1, j2, j3, -⟩; omega
end LR
theorem ag_liars : Agree 108 175 [] := by
  intro ρ τ h
  have hT := h.1
  obtain ⟨r, hr, e1⟩ := c_lying h
  have hb := hr.1
  rw [b108_0 ρ τ hT.1, e1, b108_7 ρ τ [] r hT.1 ⟨by omega, by omega⟩]
  refine ⟨r, ⟨by omega, by omega⟩, rfl, ?_⟩
  rw [m_liars h (X := True) (fun r' hr' => ?_)]
  · trivial
  · rw [LI_u hr' hr]
    exact eq_true (ag_end rfl h)
/-! canBe -/
section CB
variable {ρ : rm} {τ : Int64} {Q : Option Value → mm → Prop}
/-- who can be there -/
def CB (ρ : rm) (a w r : Int) : Prop := SB r ∧ ∀ k : Nat, k < 32 → (bt r k = true ↔ bt 63 k = true ∧ (¬ ∃ i j, 0 ≤ j ∧ j < i ∧ i < ρ 51 32 ∧ ρ 48 i = k ∧ ρ 48 j = k ∧ cf ρ i j) ∧ ¬ ∃ j, 0 ≤ j ∧ j < ρ 51 32 ∧ iab (w - ρ 50 j) < ρ 57 (10 * a + ρ 49 j) ∧ ρ 48 j = k)
theorem CB_u {a w x y : Int} (hx : CB ρ a w x) (hy : CB ρ a w y) : x = y := by
  refine bt_ext hx.1 hy.1 (fun k hk => ?_)
  have h1 := (hx.2 k hk).trans (hy.2 k hk).symm
  cases h2 : bt x k <;> cases h3 : bt y k <;> simp_all
theorem bt_63 {k : Nat} (hk : k < 32) : bt 63 k = decide (k < 6) := by
  have : ∀ j : Fin 32, bt 63 j.1 = decide (j.1 < 6) := by decide
  exact this ⟨k, hk⟩
theorem c_poss (h : RR ρ) {a c : Int} (ha : 0 ≤ a ∧ a < ρ 51 0) (hc : 0 ≤ c ∧ c < 1440) {X : Prop} (H : ∀ r, CB ρ a (oS ρ a + c) r → (0 ≤ r ∧ r < 64) → Q (some (vI r)) (toM ρ τ) = X) : G 67 0 [some (.ref 9), some (vI a), some (vI c)] [] (toM ρ τ) Q = X := by
  have hT := h.1
  have hn := h.nb
  obtain ⟨n1, n2, n3⟩ := h.gn
  obtain ⟨r, hr, e1⟩ := c_lying h
  have hb := hr.1
  have o1 := h.off (a := a) (by omega) (by omega)
  have o2 := oS_rg hT (h := a) (by omega)
  have x1 := exS_I hT a (oS ρ a + c)
  have x2 := x1.2.1
  have q1 : 0 ≤ ban 63 (bno r) ∧ ban 63 (bno r) < ((2 ^ 6 : Nat) : Int) := bt_rg (ban_sb _ _) (by decide) (fun k h1 h2 => by rw [bt_and, bt_63 h2, decide_eq_false (by omega)]; rfl)
  rw [b67_0 ρ τ a c hT.1 ⟨by omega, by omega⟩ ⟨by omega, by omega⟩, e1, b67_8 ρ τ a c 63 [] 63 r hT.1 ⟨by omega, by omega⟩ ⟨by omega, by omega⟩ ⟨by omega, by omega⟩ ⟨by omega, by omega⟩ ⟨by omega, by omega⟩, c_true hT.1 (by omega) ⟨by omega, by omega⟩, o1]
  have q1' : 0 ≤ ban 63 (bno r) ∧ ban 63 (bno r) < 64 := q1
  show G 67 22 [some (.ref 9), some (vI a), some (vI c), some (vI 63)] ((some (vI (oS ρ a + c))).toList ++ [vI a, .ref 9, vI (ban 63 (bno r))]) (toM ρ τ) Q = X
  rw [b67_22 ρ τ a c 63 [] a (ban 63 (bno r)) (oS ρ a + c) hT.1 ⟨by omega, by omega⟩ ⟨by omega, by omega⟩ ⟨by omega, by omega⟩ ⟨by omega, by omega⟩ ⟨by omega, by omega⟩ ⟨by omega, by omega⟩, c_exc hT (by omega) (by omega), b67_25 ρ τ a c 63 [] (ban 63 (bno r)) _ hT.1 ⟨by omega, by omega⟩ ⟨by omega, by omega⟩ ⟨by omega, by omega⟩ ⟨by omega, by omega⟩ ⟨by omega, by omega⟩]
  refine H (ban (ban 63 (bno r)) (bno (exS ρ a (oS ρ a + c)))) ⟨ban_sb _ _, fun k hk => ?_⟩ (bt_rg (ban_sb _ _) (n := 6) (by decide) (fun k h1 h2 => by rw [bt_and, bt_and, bt_63 h2, decide_eq_false (by omega)]; rfl))
  rw [bt_and, bt_and, bt_no _ hk, bt_no _ hk, Bool.and_eq_true, Bool.and_eq_true, Bool.not_eq_true', Bool.not_eq_true', ← Bool.not_eq_true, ← Bool.not_eq_true, hr.2 k hk, x1.2.2 k hk, and_assoc, n1]
  have e2 : (∃ j, 0 ≤ j ∧ j < ρ 51 32 ∧ iab (oS ρ a + c - ρ 50 j) < ρ (17 + a.toNat) (ρ 49 j) ∧ ρ 48 j = k) ↔ (∃ j, 0 ≤ j ∧ j < ρ 51 32 ∧ iab (oS ρ a + c - ρ 50 j) < ρ 57 (10 * a + ρ 49 j) ∧ ρ 48 j = k) := by
    constructor
    · rintro ⟨j, j1, j2, j3, j4⟩
      have e3 := h.si ⟨j1, j2⟩
      rw [h.gr (a := a) (b := ρ 49 j) (by omega) (by omega)] at j3
      exact ⟨j, j1, j2, j3, j4⟩
    · rintro ⟨j, j1, j2, j3, j4⟩
      have e3 := h.si ⟨j1, j2⟩
      rw [← h.gr (a := a) (b := ρ 49 j) (by omega) (by omega)] at j3
      exact ⟨j, j1, j2, j3, j4⟩
  rw [e2]
theorem m_canBe (h : RR ρ) {a c : Int} (ha : 0 ≤ a ∧ a < ρ 51 0) (hc : 0 ≤ c ∧ c < 1440) {X : Prop} (H : ∀ r, CB ρ a (oS ρ a + c) r → Q (some (vI r)) (toM ρ τ) = X) : G 176 0 [some (.ref 51), some (vI a), some (vI c)] [] (toM ρ τ) Q = X := by
  have hT := h.1
  have hn := h.nb
  obtain ⟨n1, n2, n3⟩ := h.gn
  rw [s176 ρ τ a c hT ⟨by omega, by omega⟩ ⟨by omega, by omega⟩, if_pos (by omega), if_pos (by omega)]
  refine m_liars h (fun r hr => ?_)
  have hb := hr.1
  rw [s176_31 ρ τ a c [] 63 r hT ⟨by omega, by omega⟩ ⟨by omega, by omega⟩ ⟨by omega, by omega⟩ ⟨by omega, by omega⟩]
  have key : ∀ (d : Nat) (i s : Int) (t : List (Option Value)), 0 ≤ i → i + d = ρ 51 32 → ((0 ≤ s ∧ s < 64) ∧ ∀ k : Nat, k < 32 → (bt s k = true ↔ bt 63 k = true ∧ (¬ ∃ i j, 0 ≤ j ∧ j < i ∧ i < ρ 51 32 ∧ ρ 48 i = k ∧ ρ 48 j = k ∧ cf ρ i j) ∧ ¬ ∃ j, 0 ≤ j ∧ j < i ∧ iab (oS ρ a + c - ρ 50 j) < ρ 57 (10 * a + ρ 49 j) ∧ ρ 48 j = k)) → G 176 38 (some (.ref 51) :: some (vI a) :: some (vI c) :: some (vI s) :: some (vI i) :: t) [] (toM ρ τ) Q = X := by
    intro d
    induction d with
    | zero =>
      intro i s t h0 h1 h2
      have e : i = ρ 51 32 := by omega
      subst e
      have h3 := h2.1
      rw [s176_38 ρ τ a c s _ t hT ⟨by omega, by omega⟩ ⟨by omega, by omega⟩ ⟨by omega, by omega⟩ ⟨by omega, by omega⟩, if_pos (by omega)]
      exact H s ⟨⟨by omega, by omega⟩, h2.2⟩
    | succ d ih =>
      intro i s t h0 h1 h2
      have h3 := h2.1
      have e1 := h.si (k := i) ⟨h0, by omega⟩
      rw [s176_38 ρ τ a c s i t hT ⟨by omega, by omega⟩ ⟨by omega, by omega⟩ ⟨by omega, by omega⟩ ⟨by omega, by omega⟩, if_neg (by omega)]
      have e2 : iab (c + oS ρ a - ρ 64 (3 * i + 2) - oS ρ (ρ 64 (3 * i + 1))) = iab (oS ρ a + c - ρ 50 i) := by rw [e1.2.2.1, show c + oS ρ a - ρ 64 (3 * i + 2) - oS ρ (ρ 64 (3 * i + 1)) = oS ρ a + c - (oS ρ (ρ 64 (3 * i + 1)) + ρ 64 (3 * i + 2)) by omega]
      rw [e2, ← e1.2.1, ← e1.1]
      split
      · rename_i hc2
        refine ih (i + 1) s _ (by omega) (by omega) ⟨h3, fun k hk => (h2.2 k hk).trans (and_congr_right (fun _ => and_congr_right (fun _ => not_congr ⟨?_, ?_⟩)))⟩
        · rintro ⟨j, j1, j2, j3, j4⟩
          exact ⟨j, j1, by omega, j3, j4⟩
        · rintro ⟨j, j1, j2, j3, j4⟩
          by_cases e : j = i
          · subst e; omega
          · exact ⟨j, j1, by omega, j3, j4⟩
      · rename_i hc2
        refine ih (i + 1) (ban s (bno (bsh (ρ 48 i)))) _ (by omega) (by omega) ⟨bt_rg (ban_sb _ _) (n := 6) (by decide) (fun k h5 h6 => by rw [bt_and, bt_up (n := 6) (by decide) h3 k h5]; rfl), fun k hk => ?_⟩
        rw [bt_and, bt_no _ hk, bt_sh (by omega) hk, Bool.and_eq_true, h2.2 k hk, Bool.not_eq_true', decide_eq_false_iff_not, and_assoc, and_assoc]
        refine and_congr_right (fun _ => and_congr_right (fun _ => ⟨?_, ?_⟩))
        · rintro ⟨z1, z2⟩ ⟨j, j1, j2, j3, j4⟩
          by_cases e : j = i
          · subst e; exact z2 j4.symm
          · exact z1 ⟨j, j1, by omega, j3, j4⟩
        · intro z
          refine ⟨?_, fun e => z ⟨i, h0, by omega, by omega, e.symm⟩⟩
          rintro ⟨j, j1, j2, j3, j4⟩
          exact z ⟨j, j1, by omega, j3, j4⟩
  refine key (ρ 51 32).toNat 0 (ban 63 (bno r)) _ (by omega) (by omega) ⟨bt_rg (ban_sb _ _) (n := 6) (by decide) (fun k h1 h2 => by rw [bt_and, bt_63 h2, decide_eq_false (by omega)]; rfl), fun k hk => ?_⟩
  rw [bt_and, bt_no _ hk, Bool.and_eq_true, Bool.not_eq_true', ← Bool.not_eq_true, hr.2 k hk]
  refine and_congr_right (fun _ => ⟨fun z => ⟨z, ?_⟩, fun z => z.1⟩)
  rintro ⟨j, j1, j2, -⟩
  omega
end CB
theorem ag_canBe (a c : Int) (ha : SB a) (hc : SB c) : Agree 109 176 [some (vI a), some (vI c)] := by
  intro ρ τ h
  have hT := h.1
  have hn := h.nb
  have n1 := h.n
  rw [b109_0 ρ τ a c hT.1 ha hc, c_has hT.1 ha, b109_8 ρ τ a c [] _ hT.1 ha hc (tv_sm _)]
  by_cases h0 : 0 ≤ a ∧ a < ρ 51 0
  · rw [if_neg (by rw [tv_0]; omega), c_isClock hT hc, b109_18 ρ τ a c [] _ hT.1 ha hc (tv_sm _)]
    by_cases h1 : 0 ≤ c ∧ c < 1440
    · rw [if_neg (by rw [tv_0]; omega)]
      rw [c_poss h h0 h1 (X := True) (fun r hr hb => ?_)]
      · trivial
      · rw [b109_30 ρ τ a c [] r hT.1 ha hc ⟨by omega, by omega⟩]
        refine eq_true ⟨r, ⟨by omega, by omega⟩, rfl, ?_⟩
        rw [m_canBe h h0 h1 (X := True) (fun r' hr' => ?_)]
        · trivial
        · rw [CB_u hr' hr]
          exact eq_true (ag_end rfl h)
    · rw [if_pos (by rw [tv_0]; omega)]
      refine ⟨_, by decide, rfl, ?_⟩
      rw [s176 ρ τ a c hT ha hc, if_pos (by omega), if_neg (by omega)]
      exact ag_end rfl h
  · rw [if_pos (by rw [tv_0]; omega)]
    refine ⟨_, by decide, rfl, ?_⟩
    rw [s176 ρ τ a c hT ha hc, if_neg (by omega)]
    exact ag_end rfl h
