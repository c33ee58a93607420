/-! hang -/
/-- the sum of g 0 .. g (n - 1) -/
def sF (g : Int → Int) (n : Int) : Int := fo (fun d s => s + g d) 0 n.toNat 0
theorem sF_bd {g : Int → Int} {n : Int} (hn : 0 ≤ n ∧ n ≤ 10) (hg : ∀ d, 0 ≤ d → d < n → 0 ≤ g d ∧ g d ≤ 8991) : 0 ≤ sF g n ∧ sF g n ≤ 89910 := by
  have := fo_inv (S := Int) (inv := fun i s => 0 ≤ i ∧ 0 ≤ s ∧ s ≤ 8991 * i) (f := fun d s => s + g d) (n := n) (fun i s h1 h2 => by have := hg i h2.1 h1; omega) n.toNat 0 0 (by omega) (by omega)
  unfold sF
  omega
def hgV (ρ : rm) (h d : Int) : Int := iab (oS ρ h - oS ρ (ρ 55 (3 * d)))
def hgS (ρ : rm) (h : Int) : Int := sF (hgV ρ h) (ρ 51 5)
def hgF (ρ : rm) (h b : Int) : Int := if hgS ρ h < hgS ρ b then h else b
section HG
variable {ρ : rm} {τ : Int64} {Q : Option Value → mm → Prop}
theorem RR.de (h : RR ρ) {d : Int} (h1 : 0 ≤ d ∧ d < ρ 51 5) : ρ 27 d = ρ 55 (3 * d) ∧ ρ 28 d = ρ 55 (3 * d + 1) ∧ ρ 29 d = ρ 55 (3 * d + 2) ∧ 0 ≤ ρ 55 (3 * d) ∧ ρ 55 (3 * d) < ρ 51 0 ∧ ρ 55 (3 * d) ≤ 9 := by
  have h2 := h.D.2 d h1.1 h1.2
  have h3 := T55a h.1 d
  omega
theorem RR.dn (h : RR ρ) : ρ 2 4 = ρ 51 5 ∧ 0 ≤ ρ 51 5 ∧ ρ 51 5 ≤ 10 := ⟨h.D.1, h.1.2 51 5⟩
theorem hgV_bd (h : RR ρ) {x d : Int} (hx : 0 ≤ x ∧ x < 10) (h1 : 0 ≤ d ∧ d < ρ 51 5) : 0 ≤ hgV ρ x d ∧ hgV ρ x d ≤ 8991 := by
  have h2 := h.de h1
  have o1 := oS_rg h.1 (h := x) hx
  have o2 := oS_rg h.1 (h := ρ 55 (3 * d)) (by omega)
  have := iab_bd (oS ρ x - oS ρ (ρ 55 (3 * d)))
  unfold hgV
  omega
theorem hgS_bd (h : RR ρ) {x : Int} (hx : 0 ≤ x ∧ x < 10) : 0 ≤ hgS ρ x ∧ hgS ρ x ≤ 89910 := sF_bd h.dn.2 (fun d h1 h2 => hgV_bd h hx ⟨h1, h2⟩)
theorem c_change (h : RR ρ) {x : Int} (hx : 0 ≤ x ∧ x < ρ 51 0) : G 21 0 [some (.ref 2), some (vI x)] [] (toM ρ τ) Q = Q (some (vI (hgS ρ x))) (toM ρ τ) := by
  have hT := h.1
  have hn := h.nb
  obtain ⟨d1, d2, d3⟩ := h.dn
  rw [s21 ρ τ x hT (by omega)]
  refine lp (S := Int) (P := fun d s t => G 21 4 (some (.ref 2) :: some (vI x) :: some (vI s) :: some (vI d) :: t) [] (toM ρ τ) Q) (inv := fun i s => 0 ≤ i ∧ 0 ≤ s ∧ s ≤ 8991 * i) (n := ρ 51 5) (f := fun d s => s + hgV ρ x d) ?_ (fun i s h1 h2 => by have := hgV_bd h (x := x) (d := i) (by omega) ⟨h2.1, h1⟩; omega) (ρ 51 5).toNat 0 0 [] (by omega) (by omega) ?_
  · rintro d s t h1 ⟨h2, h3, h4⟩ H
    have e1 := h.de (d := d) ⟨h2, h1⟩
    have e2 := h.off (a := ρ 55 (3 * d)) (by omega) (by omega)
    have e3 := h.off (a := x) (by omega) (by omega)
    show G 21 4 (some (.ref 2) :: some (vI x) :: some (vI s) :: some (vI d) :: t) [] (toM ρ τ) Q = _
    rw [s21_4 ρ τ x s d t hT (by omega) ⟨by omega, by omega⟩ ⟨by omega, by omega⟩, if_neg (by omega), e1.1, e2, e3]
    exact H _ _ rfl
  · intro h2 t'
    show G 21 4 (some (.ref 2) :: some (vI x) :: some (vI (hgS ρ x)) :: some (vI (ρ 51 5)) :: t') [] (toM ρ τ) Q = _
    have := hgS_bd h (x := x) (by omega)
    rw [s21_4 ρ τ x _ _ t' hT (by omega) ⟨by omega, by omega⟩ ⟨by omega, by omega⟩, if_pos (by omega)]
theorem hgF_keep (h : RR ρ) : ∀ i (b : Int), i < ρ 51 0 → (1 ≤ i ∧ 0 ≤ b ∧ b < i) → (1 ≤ i + 1 ∧ 0 ≤ hgF ρ i b ∧ hgF ρ i b < i + 1) := by
  intro i b h1 h2
  unfold hgF
  split <;> omega
def hgA (ρ : rm) : Int := fo (hgF ρ) 1 (ρ 51 0 - 1).toNat 0
theorem hgA_bd (h : RR ρ) : 0 ≤ hgA ρ ∧ hgA ρ < ρ 51 0 := by
  have hn := h.nb
  have := fo_inv (hgF_keep h) (ρ 51 0 - 1).toNat 1 0 (by omega) (by omega)
  unfold hgA
  omega
theorem c_least (h : RR ρ) : G 22 0 [some (.ref 2)] [] (toM ρ τ) Q = Q (some (vI (hgA ρ))) (toM ρ τ) := by
  have hT := h.1
  have hn := h.nb
  have n1 := h.n
  rw [b22_0 ρ τ hT.1]
  refine lp (S := Int) (P := fun i b t => G 22 4 (some (.ref 2) :: some (vI b) :: some (vI i) :: t) [] (toM ρ τ) Q) (inv := fun i b => 1 ≤ i ∧ 0 ≤ b ∧ b < i) (n := ρ 51 0) (f := hgF ρ) ?_ (hgF_keep h) (ρ 51 0 - 1).toNat 1 0 [] (by omega) (by omega) ?_
  · rintro i b t h1 ⟨h2, h3, h4⟩ H
    have q1 := hgS_bd h (x := i) (by omega)
    have q2 := hgS_bd h (x := b) (by omega)
    show G 22 4 (some (.ref 2) :: some (vI b) :: some (vI i) :: t) [] (toM ρ τ) Q = _
    rw [b22_4 ρ τ b i t hT.1 ⟨by omega, by omega⟩ ⟨by omega, by omega⟩, if_neg (by omega), c_change h (x := i) (by omega), b22_20 ρ τ b i t _ hT.1 ⟨by omega, by omega⟩ ⟨by omega, by omega⟩ ⟨by omega, by omega⟩, c_change h (x := b) (by omega), b22_25 ρ τ b i t _ _ hT.1 ⟨by omega, by omega⟩ ⟨by omega, by omega⟩ ⟨by omega, by omega⟩ ⟨by omega, by omega⟩]
    split
    · exact H _ _ (by unfold hgF; rw [if_neg (by omega)])
    · exact H _ _ (by unfold hgF; rw [if_pos (by omega)])
  · intro h2 t'
    show G 22 4 (some (.ref 2) :: some (vI (hgA ρ)) :: some (vI (ρ 51 0)) :: t') [] (toM ρ τ) Q = _
    have := hgA_bd h
    rw [b22_4 ρ τ _ _ t' hT.1 ⟨by omega, by omega⟩ ⟨by omega, by omega⟩, if_pos (by omega)]
theorem m_hin (h : RR ρ) {w b l x : Int} (hw : SB w) (hb : -1 ≤ b ∧ b < 10) (hl : 0 ≤ l ∧ l ≤ 89910) (hx : 0 ≤ x ∧ x < ρ 51 0) {X : Prop} (t : List (Option Value))
    (H : ∀ b' l' t', (b' = if b = -1 ∨ hgS ρ x < l then x else b) → (l' = if b = -1 ∨ hgS ρ x < l then hgS ρ x else l) → G 177 29 (some (.ref 51) :: some (vI w) :: some (vI b') :: some (vI l') :: some (vI (x + 1)) :: t') [] (toM ρ τ) Q = X) :
    G 177 29 (some (.ref 51) :: some (vI w) :: some (vI b) :: some (vI l) :: some (vI x) :: t) [] (toM ρ τ) Q = X := by
  have hT := h.1
  have hn := h.nb
  obtain ⟨d1, d2, d3⟩ := h.dn
  rw [s177_29 ρ τ w b l x t hT hw ⟨by omega, by omega⟩ ⟨by omega, by omega⟩ ⟨by omega, by omega⟩, if_neg (by omega)]
  refine lp (S := Int) (P := fun d s t => G 177 44 (some (.ref 51) :: some (vI w) :: some (vI b) :: some (vI l) :: some (vI x) :: some (vI s) :: some (vI d) :: t) [] (toM ρ τ) Q) (inv := fun i s => 0 ≤ i ∧ 0 ≤ s ∧ s ≤ 8991 * i) (n := ρ 51 5) (f := fun d s => s + hgV ρ x d) ?_ (fun i s h1 h2 => by have := hgV_bd h (x := x) (d := i) (by omega) ⟨h2.1, h1⟩; omega) (ρ 51 5).toNat 0 0 _ (by omega) (by omega) ?_
  · rintro d s t h1 ⟨h2, h3, h4⟩ H2
    have e1 := h.de (d := d) ⟨h2, h1⟩
    show G 177 44 (some (.ref 51) :: some (vI w) :: some (vI b) :: some (vI l) :: some (vI x) :: some (vI s) :: some (vI d) :: t) [] (toM ρ τ) Q = _
    rw [s177_44 ρ τ w b l x s d t hT hw ⟨by omega, by omega⟩ ⟨by omega, by omega⟩ (by omega) ⟨by omega, by omega⟩ ⟨by omega, by omega⟩, if_neg (by omega)]
    split
    · exact H2 _ _ (by unfold hgV iab; split <;> omega)
    · exact H2 _ _ (by unfold hgV iab; split <;> omega)
  · intro h2 t'
    show G 177 44 (some (.ref 51) :: some (vI w) :: some (vI b) :: some (vI l) :: some (vI x) :: some (vI (hgS ρ x)) :: some (vI (ρ 51 5)) :: t') [] (toM ρ τ) Q = _
    have := hgS_bd h (x := x) (by omega)
    rw [s177_44 ρ τ w b l x _ _ t' hT hw ⟨by omega, by omega⟩ ⟨by omega, by omega⟩ (by omega) ⟨by omega, by omega⟩ ⟨by omega, by omega⟩, if_pos (by omega)]
    split
    · exact H _ _ _ (by omega) (by omega)
    · split
      · exact H _ _ _ (by omega) (by omega)
      · exact H _ _ _ (by omega) (by omega)
theorem m_hang (h : RR ρ) {w : Int} (hw : 0 ≤ w ∧ w ≤ 1) (hd : ¬ ρ 51 5 = 0) : G 177 0 [some (.ref 51), some (vI w)] [] (toM ρ τ) Q = Q (some (vI (if w = 0 then hgA ρ else hgS ρ (hgA ρ)))) (toM ρ τ) := by
  have hT := h.1
  have hn := h.nb
  generalize hX : Q (some (vI (if w = 0 then hgA ρ else hgS ρ (hgA ρ)))) (toM ρ τ) = X
  rw [s177 ρ τ w hT ⟨by omega, by omega⟩, if_pos hw, if_neg hd]
  refine m_hin h ⟨by omega, by omega⟩ (by omega) (by omega) (by omega) _ (fun b' l' t' q1 q2 => ?_)
  rw [if_pos (Or.inl rfl)] at q1 q2
  rw [q1, q2]
  refine lp (S := Int) (P := fun i b t => G 177 29 (some (.ref 51) :: some (vI w) :: some (vI b) :: some (vI (hgS ρ b)) :: some (vI i) :: t) [] (toM ρ τ) Q) (inv := fun i b => 1 ≤ i ∧ 0 ≤ b ∧ b < i) (n := ρ 51 0) (f := hgF ρ) ?_ (hgF_keep h) (ρ 51 0 - 1).toNat 1 0 t' (by omega) (by omega) ?_
  · rintro i b t h1 ⟨h2, h3, h4⟩ H
    have q3 := hgS_bd h (x := b) (by omega)
    refine m_hin h ⟨by omega, by omega⟩ (by omega) q3 (by omega) _ (fun b2 l2 t2 q4 q5 => ?_)
    have e1 : b2 = hgF ρ i b := by
      rw [q4]
      unfold hgF
      by_cases hc : hgS ρ i < hgS ρ b
      · rw [if_pos (Or.inr hc), if_pos hc]
      · rw [if_neg (by omega), if_neg hc]
    have e2 : l2 = hgS ρ b2 := by
      rw [q5, q4]
      by_cases hc : hgS ρ i < hgS ρ b
      · rw [if_pos (Or.inr hc), if_pos (Or.inr hc)]
      · rw [if_neg (by omega), if_neg (by omega)]
    rw [e2]
    exact H _ _ e1
  · intro h2 t2
    show G 177 29 (some (.ref 51) :: some (vI w) :: some (vI (hgA ρ)) :: some (vI (hgS ρ (hgA ρ))) :: some (vI (ρ 51 0)) :: t2) [] (toM ρ τ) Q = _
    have q1 := hgA_bd h
    have q2 := hgS_bd h (x := hgA ρ) (by omega)
    rw [s177_29 ρ τ w _ _ _ t2 hT ⟨by omega, by omega⟩ ⟨by omega, by omega⟩ ⟨by omega, by omega⟩ ⟨by omega, by omega⟩, if_pos (by omega), ← hX]
    split <;> rfl
end HG
theorem ag_hang (a : Int) (ha : SB a) : Agree 110 177 [some (vI a)] := by
  intro ρ τ h
  have hT := h.1
  have hn := h.nb
  obtain ⟨d1, d2, d3⟩ := h.dn
  have q1 := hgA_bd h
  have q2 := hgS_bd h (x := hgA ρ) (by omega)
  rw [b110_0 ρ τ a hT.1 ha]
  by_cases h1 : 0 ≤ a ∧ a ≤ 1
  · rw [if_neg (by omega), if_pos (by omega)]
    by_cases h2 : ρ 51 5 = 0
    · rw [if_pos (by omega)]
      refine ⟨_, by decide, rfl, ?_⟩
      rw [s177 ρ τ a hT ha, if_pos h1, if_pos h2]
      exact ag_end rfl h
    · rw [if_neg (by omega), c_least h, b110_32 ρ τ a [] _ hT.1 ha ⟨by omega, by omega⟩]
      split
      · rename_i h3
        refine ⟨_, ⟨by omega, by omega⟩, rfl, ?_⟩
        rw [m_hang h h1 h2, if_pos h3]
        exact ag_end rfl h
      · rename_i h3
        rw [c_change h (by omega), b110_49 ρ τ a _ _ _ hT.1 ha ⟨by omega, by omega⟩ ⟨by omega, by omega⟩]
        refine ⟨_, ⟨by omega, by omega⟩, rfl, ?_⟩
        rw [m_hang h h1 h2, if_neg h3]
        exact ag_end rfl h
  · have e : ∀ Q, G 177 0 [some (.ref 51), some (vI a)] [] (toM ρ τ) Q = Q (some (vI (-3))) (toM ρ τ) := fun Q => by rw [s177 ρ τ a hT ha, if_neg h1]
    (repeat' split) <;> first | (exfalso; omega) | (refine ⟨_, by decide, rfl, ?_⟩; rw [e]; exact ag_end rfl h)
