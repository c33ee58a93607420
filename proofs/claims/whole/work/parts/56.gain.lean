/-! gaining -/
def gnS (V : Int → Int → Int) (a b : Int) (s : Int × Int × Int) : Int × Int × Int :=
  (s.1 + (if V a b < 0 then 1 else 0), (if V a b < s.2.2 then 20 * a + b else s.2.1), (if V a b < s.2.2 then V a b else s.2.2))
def gnI (c : Int) (i : Int) (s : Int × Int × Int) : Prop := 0 ≤ i ∧ i ≤ 10 ∧ 0 ≤ s.1 ∧ s.1 ≤ c + i ∧ -1 ≤ s.2.1 ∧ s.2.1 ≤ 1000 ∧ -8991 ≤ s.2.2 ∧ s.2.2 ≤ 0
theorem gn_keep {V : Int → Int → Int} {a n c : Int} (ha : 0 ≤ a ∧ a < 10) (hn : n ≤ 10) (hV : ∀ b, 0 ≤ b → b < n → -8991 ≤ V a b) : ∀ i s, i < n → gnI c i s → gnI c (i + 1) (gnS V a i s) := by
  rintro i ⟨x, y, z⟩ h1 ⟨h2, h3, h4, h5, h6, h7, h8, h9⟩
  have := hV i h2 h1
  dsimp only at h4 h5 h6 h7 h8 h9
  unfold gnI gnS
  dsimp only
  refine ⟨by omega, by omega, ?_, ?_, ?_, ?_, ?_, ?_⟩ <;> (repeat' split) <;> omega
section GN
variable {ρ : rm} {τ : Int64} {Q : Option Value → mm → Prop}
def gnA (V : Int → Int → Int) (n : Int) : Int × Int × Int := fo (fun a s => fo (gnS V a) 0 n.toNat s) 0 n.toNat (0, -1, 0)
def gnJ (i : Int) (s : Int × Int × Int) : Prop := 0 ≤ i ∧ i ≤ 10 ∧ 0 ≤ s.1 ∧ s.1 ≤ 10 * i ∧ -1 ≤ s.2.1 ∧ s.2.1 ≤ 1000 ∧ -8991 ≤ s.2.2 ∧ s.2.2 ≤ 0
theorem gn_out {V : Int → Int → Int} {n : Int} (hn : 0 ≤ n ∧ n ≤ 10) (hV : ∀ a b, 0 ≤ a → a < n → 0 ≤ b → b < n → -8991 ≤ V a b) : ∀ i s, i < n → gnJ i s → gnJ (i + 1) (fo (gnS V i) 0 n.toNat s) := by
  intro i s h1 h2
  have h3 := fo_inv (inv := gnI (10 * i)) (n := n) (gn_keep (V := V) (a := i) (n := n) ⟨h2.1, by omega⟩ hn.2 (fun b => hV i b h2.1 h1)) n.toNat 0 s (by omega) ⟨by omega, by omega, h2.2.2.1, by have := h2.2.2.2.1; omega, h2.2.2.2.2⟩
  exact ⟨by have := h2.1; omega, by omega, h3.2.2.1, by have := h3.2.2.2.1; omega, h3.2.2.2.2⟩
theorem c_gain (hT : TI ρ) {V : Int → Int → Int} (hV : ∀ a b, 0 ≤ a → a < ρ 1 1 → 0 ≤ b → b < ρ 1 1 → ρ (17 + a.toNat) b - (ρ 10 b - ρ 10 a) = V a b ∧ -8991 ≤ V a b) : G 38 0 [some (.ref 1)] [] (toM ρ τ) Q = Q (some (vI (gnA V (ρ 1 1)).1)) (toM ρ τ) := by
  have hn : 2 ≤ ρ 1 1 ∧ ρ 1 1 ≤ 10 := hT.2 1 1
  have hV' : ∀ a b, 0 ≤ a → a < ρ 1 1 → 0 ≤ b → b < ρ 1 1 → -8991 ≤ V a b := fun a b h1 h2 h3 h4 => (hV a b h1 h2 h3 h4).2
  rw [s38 ρ τ hT]
  refine lp (S := Int × Int × Int) (P := fun a s t => G 38 4 (some (.ref 1) :: some (vI s.1) :: some (vI a) :: t) [] (toM ρ τ) Q) (inv := gnJ) (n := ρ 1 1) (f := fun a s => fo (gnS V a) 0 (ρ 1 1).toNat s) ?_ (gn_out (by omega) hV') (ρ 1 1).toNat 0 (0, -1, 0) [] (by omega) (by unfold gnJ; dsimp only; omega) ?_
  · rintro a s t h1 h2 H
    have h2' := h2
    obtain ⟨h3, h4, h5, h6, -⟩ := h2'
    show G 38 4 (some (.ref 1) :: some (vI s.1) :: some (vI a) :: t) [] (toM ρ τ) Q = _
    rw [s38_4 ρ τ s.1 a t hT ⟨by omega, by omega⟩ ⟨by omega, by omega⟩, if_neg (by omega)]
    refine lp (S := Int × Int × Int) (P := fun b s t => G 38 14 (some (.ref 1) :: some (vI s.1) :: some (vI a) :: some (vI b) :: t) [] (toM ρ τ) Q) (inv := gnI (10 * a)) (n := ρ 1 1) (f := gnS V a) ?_ (gn_keep ⟨h3, by omega⟩ hn.2 (fun b => hV' a b h3 h1)) (ρ 1 1).toNat 0 s _ (by omega) ⟨by omega, by omega, h2.2.2.1, by omega, h2.2.2.2.2⟩ ?_
    · rintro b ⟨x, y, z⟩ t h7 ⟨i1, i2, i3, i4, i5, i6, i7, i8⟩ H2
      dsimp only at i3 i4 i5 i6 i7 i8
      show G 38 14 (some (.ref 1) :: some (vI x) :: some (vI a) :: some (vI b) :: t) [] (toM ρ τ) Q = _
      rw [s38_14 ρ τ x a b t hT ⟨by omega, by omega⟩ ⟨by omega, by omega⟩ ⟨by omega, by omega⟩, if_neg (by omega), (hV a b h3 h1 i1 h7).1]
      split
      · exact H2 (x, (if V a b < z then 20 * a + b else y), (if V a b < z then V a b else z)) _ (t3 (by dsimp only; omega) rfl rfl)
      · exact H2 (x + 1, (if V a b < z then 20 * a + b else y), (if V a b < z then V a b else z)) _ (t3 (by dsimp only; omega) rfl rfl)
    · intro h7 t'
      obtain ⟨i1, i2, i3, i4, -⟩ := h7
      show G 38 14 (some (.ref 1) :: some (vI _) :: some (vI a) :: some (vI (ρ 1 1)) :: t') [] (toM ρ τ) Q = _
      rw [s38_14 ρ τ _ a (ρ 1 1) t' hT ⟨by omega, by omega⟩ ⟨by omega, by omega⟩ ⟨by omega, by omega⟩, if_pos (by omega)]
      exact H _ _ rfl
  · intro h2 t'
    obtain ⟨h3, h4, h5, h6, -⟩ := h2
    show G 38 4 (some (.ref 1) :: some (vI _) :: some (vI (ρ 1 1)) :: t') [] (toM ρ τ) Q = _
    rw [s38_4 ρ τ _ (ρ 1 1) t' hT ⟨by omega, by omega⟩ ⟨by omega, by omega⟩, if_pos (by omega)]
    rfl
theorem c_pair (hT : TI ρ) {V : Int → Int → Int} (hV : ∀ a b, 0 ≤ a → a < ρ 1 1 → 0 ≤ b → b < ρ 1 1 → ρ (17 + a.toNat) b - (ρ 10 b - ρ 10 a) = V a b ∧ -8991 ≤ V a b) : G 39 0 [some (.ref 1)] [] (toM ρ τ) Q = Q (some (vI (gnA V (ρ 1 1)).2.1)) (toM ρ τ) := by
  have hn : 2 ≤ ρ 1 1 ∧ ρ 1 1 ≤ 10 := hT.2 1 1
  have hV' : ∀ a b, 0 ≤ a → a < ρ 1 1 → 0 ≤ b → b < ρ 1 1 → -8991 ≤ V a b := fun a b h1 h2 h3 h4 => (hV a b h1 h2 h3 h4).2
  rw [s39 ρ τ hT]
  refine lp (S := Int × Int × Int) (P := fun a s t => G 39 6 (some (.ref 1) :: some (vI s.2.2) :: some (vI s.2.1) :: some (vI a) :: t) [] (toM ρ τ) Q) (inv := gnJ) (n := ρ 1 1) (f := fun a s => fo (gnS V a) 0 (ρ 1 1).toNat s) ?_ (gn_out (by omega) hV') (ρ 1 1).toNat 0 (0, -1, 0) [] (by omega) (by unfold gnJ; dsimp only; omega) ?_
  · rintro a s t h1 h2 H
    have h2' := h2
    obtain ⟨h3, h4, h5, h6, h7, h8, h9, h10⟩ := h2'
    show G 39 6 (some (.ref 1) :: some (vI s.2.2) :: some (vI s.2.1) :: some (vI a) :: t) [] (toM ρ τ) Q = _
    rw [s39_6 ρ τ s.2.2 s.2.1 a t hT ⟨by omega, by omega⟩ ⟨by omega, by omega⟩ ⟨by omega, by omega⟩, if_neg (by omega)]
    refine lp (S := Int × Int × Int) (P := fun b s t => G 39 17 (some (.ref 1) :: some (vI s.2.2) :: some (vI s.2.1) :: some (vI a) :: some (vI b) :: t) [] (toM ρ τ) Q) (inv := gnI (10 * a)) (n := ρ 1 1) (f := gnS V a) ?_ (gn_keep ⟨h3, by omega⟩ hn.2 (fun b => hV' a b h3 h1)) (ρ 1 1).toNat 0 s _ (by omega) ⟨by omega, by omega, h2.2.2.1, by omega, h2.2.2.2.2⟩ ?_
    · rintro b ⟨x, y, z⟩ t h7 ⟨i1, i2, i3, i4, i5, i6, i7, i8⟩ H2
      dsimp only at i3 i4 i5 i6 i7 i8
      show G 39 17 (some (.ref 1) :: some (vI z) :: some (vI y) :: some (vI a) :: some (vI b) :: t) [] (toM ρ τ) Q = _
      rw [s39_17 ρ τ z y a b t hT ⟨by omega, by omega⟩ ⟨by omega, by omega⟩ ⟨by omega, by omega⟩ ⟨by omega, by omega⟩, if_neg (by omega), (hV a b h3 h1 i1 h7).1]
      split
      · exact H2 (x + (if V a b < 0 then 1 else 0), y, z) _ (t3 rfl (by dsimp only; omega) (by dsimp only; omega))
      · exact H2 (x + (if V a b < 0 then 1 else 0), 20 * a + b, V a b) _ (t3 rfl (by dsimp only; omega) (by dsimp only; omega))
    · intro h7 t'
      obtain ⟨i1, i2, i3, i4, i5, i6, i7, i8⟩ := h7
      show G 39 17 (some (.ref 1) :: some (vI _) :: some (vI _) :: some (vI a) :: some (vI (ρ 1 1)) :: t') [] (toM ρ τ) Q = _
      rw [s39_17 ρ τ _ _ a (ρ 1 1) t' hT ⟨by omega, by omega⟩ ⟨by omega, by omega⟩ ⟨by omega, by omega⟩ ⟨by omega, by omega⟩, if_pos (by omega)]
      exact H _ _ rfl
  · intro h2 t'
    obtain ⟨h3, h4, h5, h6, h7, h8, h9, h10⟩ := h2
    show G 39 6 (some (.ref 1) :: some (vI _) :: some (vI _) :: some (vI (ρ 1 1)) :: t') [] (toM ρ τ) Q = _
    rw [s39_6 ρ τ _ _ (ρ 1 1) t' hT ⟨by omega, by omega⟩ ⟨by omega, by omega⟩ ⟨by omega, by omega⟩, if_pos (by omega)]
    rfl
theorem m_gain (hT : TI ρ) {w : Int} (hw : 0 ≤ w ∧ w ≤ 1) {V : Int → Int → Int} (hV : ∀ a b, 0 ≤ a → a < ρ 51 0 → 0 ≤ b → b < ρ 51 0 → ((ρ 57 ((10 * a) + b)) - (oS ρ b)) + (oS ρ a) = V a b ∧ -8991 ≤ V a b) : G 145 0 [some (.ref 51), some (vI w)] [] (toM ρ τ) Q = Q (some (vI (if w = 0 then (gnA V (ρ 51 0)).1 else (gnA V (ρ 51 0)).2.1))) (toM ρ τ) := by
  have hn : 2 ≤ ρ 51 0 ∧ ρ 51 0 ≤ 10 := hT.2 51 0
  have hV' : ∀ a b, 0 ≤ a → a < ρ 51 0 → 0 ≤ b → b < ρ 51 0 → -8991 ≤ V a b := fun a b h1 h2 h3 h4 => (hV a b h1 h2 h3 h4).2
  rw [s145 ρ τ w hT ⟨by omega, by omega⟩, if_pos hw]
  generalize hX : Q (some (vI (if w = 0 then (gnA V (ρ 51 0)).1 else (gnA V (ρ 51 0)).2.1))) (toM ρ τ) = X
  refine lp (S := Int × Int × Int) (P := fun a s t => G 145 22 (some (.ref 51) :: some (vI w) :: some (vI s.1) :: some (vI s.2.1) :: some (vI s.2.2) :: some (vI a) :: t) [] (toM ρ τ) Q) (inv := gnJ) (n := ρ 51 0) (f := fun a s => fo (gnS V a) 0 (ρ 51 0).toNat s) ?_ (gn_out (by omega) hV') (ρ 51 0).toNat 0 (0, -1, 0) [] (by omega) (by unfold gnJ; dsimp only; omega) ?_
  · rintro a s t h1 h2 H
    have h2' := h2
    obtain ⟨h3, h4, h5, h6, h7, h8, h9, h10⟩ := h2'
    show G 145 22 (some (.ref 51) :: some (vI w) :: some (vI s.1) :: some (vI s.2.1) :: some (vI s.2.2) :: some (vI a) :: t) [] (toM ρ τ) Q = _
    rw [s145_22 ρ τ w s.1 s.2.1 s.2.2 a t hT ⟨by omega, by omega⟩ ⟨by omega, by omega⟩ ⟨by omega, by omega⟩ ⟨by omega, by omega⟩ ⟨by omega, by omega⟩, if_neg (by omega)]
    refine lp (S := Int × Int × Int) (P := fun b s t => G 145 34 (some (.ref 51) :: some (vI w) :: some (vI s.1) :: some (vI s.2.1) :: some (vI s.2.2) :: some (vI a) :: some (vI b) :: t) [] (toM ρ τ) Q) (inv := gnI (10 * a)) (n := ρ 51 0) (f := gnS V a) ?_ (gn_keep ⟨h3, by omega⟩ hn.2 (fun b => hV' a b h3 h1)) (ρ 51 0).toNat 0 s _ (by omega) ⟨by omega, by omega, h2.2.2.1, by omega, h2.2.2.2.2⟩ ?_
    · rintro b ⟨x, y, z⟩ t h7 ⟨i1, i2, i3, i4, i5, i6, i7, i8⟩ H2
      dsimp only at i3 i4 i5 i6 i7 i8
      show G 145 34 (some (.ref 51) :: some (vI w) :: some (vI x) :: some (vI y) :: some (vI z) :: some (vI a) :: some (vI b) :: t) [] (toM ρ τ) Q = _
      rw [s145_34 ρ τ w x y z a b t hT ⟨by omega, by omega⟩ ⟨by omega, by omega⟩ ⟨by omega, by omega⟩ ⟨by omega, by omega⟩ ⟨by omega, by omega⟩ ⟨by omega, by omega⟩, if_neg (by omega), (hV a b h3 h1 i1 h7).1]
      have H3 : ∀ x' y' z' t', x' = x + (if V a b < 0 then 1 else 0) → y' = (if V a b < z then 20 * a + b else y) → z' = (if V a b < z then V a b else z) → G 145 34 (some (.ref 51) :: some (vI w) :: some (vI x') :: some (vI y') :: some (vI z') :: some (vI a) :: some (vI (b + 1)) :: t') [] (toM ρ τ) Q = _ := fun x' y' z' t' q1 q2 q3 => H2 (x', y', z') t' (by unfold gnS; dsimp only; rw [q1, q2, q3])
      (repeat' split) <;> first | (exfalso; omega) | exact H3 _ _ _ _ (by omega) (by omega) (by omega)
    · intro h7 t'
      obtain ⟨i1, i2, i3, i4, i5, i6, i7, i8⟩ := h7
      show G 145 34 (some (.ref 51) :: some (vI w) :: some (vI _) :: some (vI _) :: some (vI _) :: some (vI a) :: some (vI (ρ 51 0)) :: t') [] (toM ρ τ) Q = _
      rw [s145_34 ρ τ w _ _ _ a (ρ 51 0) t' hT ⟨by omega, by omega⟩ ⟨by omega, by omega⟩ ⟨by omega, by omega⟩ ⟨by omega, by omega⟩ ⟨by omega, by omega⟩ ⟨by omega, by omega⟩, if_pos (by omega)]
      exact H _ _ rfl
  · intro h2 t'
    obtain ⟨h3, h4, h5, h6, h7, h8, h9, h10⟩ := h2
    show G 145 22 (some (.ref 51) :: some (vI w) :: some (vI _) :: some (vI _) :: some (vI _) :: some (vI (ρ 51 0)) :: t') [] (toM ρ τ) Q = _
    rw [s145_22 ρ τ w _ _ _ (ρ 51 0) t' hT ⟨by omega, by omega⟩ ⟨by omega, by omega⟩ ⟨by omega, by omega⟩ ⟨by omega, by omega⟩ ⟨by omega, by omega⟩, if_pos (by omega)]
    rw [← hX]
    split
    · rfl
    · rfl
theorem gnA_bd {V : Int → Int → Int} {n : Int} (hn : 0 ≤ n ∧ n ≤ 10) (hV : ∀ a b, 0 ≤ a → a < n → 0 ≤ b → b < n → -8991 ≤ V a b) : gnJ n (gnA V n) :=
  fo_inv (gn_out hn hV) n.toNat 0 _ (by omega) (by unfold gnJ; dsimp only; omega)
end GN
theorem ag_gaining (a : Int) (ha : SB a) : Agree 89 145 [some (vI a)] := by
  intro ρ τ h
  have hT := h.1
  have n1 := h.n
  have hn := h.nb
  have hV : ∀ x y, 0 ≤ x → x < ρ 51 0 → 0 ≤ y → y < ρ 51 0 → ((ρ 57 ((10 * x) + y)) - (oS ρ y)) + (oS ρ x) = (fun x y => ((ρ 57 ((10 * x) + y)) - (oS ρ y)) + (oS ρ x)) x y ∧ -8991 ≤ (fun x y => ((ρ 57 ((10 * x) + y)) - (oS ρ y)) + (oS ρ x)) x y := fun x y h1 h2 h3 h4 => ⟨rfl, (back_bd hT (a := x) (b := y) (by omega)).1⟩
  have hV2 : ∀ x y, 0 ≤ x → x < ρ 1 1 → 0 ≤ y → y < ρ 1 1 → ρ (17 + x.toNat) y - (ρ 10 y - ρ 10 x) = (fun x y => ((ρ 57 ((10 * x) + y)) - (oS ρ y)) + (oS ρ x)) x y ∧ -8991 ≤ (fun x y => ((ρ 57 ((10 * x) + y)) - (oS ρ y)) + (oS ρ x)) x y := fun x y h1 h2 h3 h4 => by
    have e1 := h.gr (a := x) (b := y) (by omega) (by omega)
    have e2 := h.off (a := x) (by omega) (by omega)
    have e3 := h.off (a := y) (by omega) (by omega)
    refine ⟨?_, (hV x y h1 (by omega) h3 (by omega)).2⟩
    dsimp only
    omega
  have bd := gnA_bd (V := fun x y => ((ρ 57 ((10 * x) + y)) - (oS ρ y)) + (oS ρ x)) (n := ρ 51 0) (by omega) (fun x y h1 h2 h3 h4 => (hV x y h1 h2 h3 h4).2)
  obtain ⟨-, -, i3, i4, i5, i6, -⟩ := bd
  rw [b89_0 ρ τ a hT.1 ha]
  by_cases h1 : 0 ≤ a ∧ a ≤ 1
  · rw [if_neg (by omega), if_pos (by omega)]
    by_cases h2 : a = 0
    · rw [if_pos h2, c_gain hT hV2, n1, b89_23 ρ τ a [] _ hT.1 ha ⟨by omega, by omega⟩]
      refine ⟨_, ⟨by omega, by omega⟩, rfl, ?_⟩
      rw [m_gain hT h1 hV, if_pos h2]
      exact ag_end rfl h
    · rw [if_neg h2, c_pair hT hV2, n1, b89_33 ρ τ a [] _ hT.1 ha ⟨by omega, by omega⟩]
      refine ⟨_, ⟨by omega, by omega⟩, rfl, ?_⟩
      rw [m_gain hT h1 hV, if_neg h2]
      exact ag_end rfl h
  · have e : ∀ Q, G 145 0 [some (.ref 51), some (vI a)] [] (toM ρ τ) Q = Q (some (vI (-3))) (toM ρ τ) := fun Q => by rw [s145 ρ τ a hT ha, if_neg h1]
    split
    · refine ⟨_, by decide, rfl, ?_⟩
      rw [e]
      exact ag_end rfl h
    · rw [if_neg (by omega)]
      refine ⟨_, by decide, rfl, ?_⟩
      rw [e]
      exact ag_end rfl h
