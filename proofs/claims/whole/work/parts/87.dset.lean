/-! the class puts its deeds in order -/
def SoD (B : Int → Int) (d : Int) (b : Int → Int) : Prop := (∀ i, 0 ≤ i → i < d → 0 ≤ b i ∧ b i < d) ∧ ∀ i j, 0 ≤ i → i < j → j < d → ahd B (b i) (b j)
theorem ins_ok {B o b : Int → Int} {d p : Int} (ho : SoD B d o) (hp : 0 ≤ p ∧ p ≤ d) (h1 : ∀ x, 0 ≤ x → x < p → b x = o x) (h2 : b p = d) (h3 : ∀ x, p < x → x ≤ d → b x = o (x - 1)) (h4 : ∀ x, p ≤ x → x < d → B d < B (o x)) (h5 : p = 0 ∨ B (o (p - 1)) ≤ B d) : SoD B (d + 1) b := by
  obtain ⟨o1, o2⟩ := ho
  refine ⟨fun i i1 i2 => ?_, fun i j i1 i2 i3 => ?_⟩
  · by_cases c : i < p
    · have := o1 i i1 (by omega)
      rw [h1 i i1 c]; omega
    · by_cases c2 : i = p
      · rw [c2, h2]; omega
      · have := o1 (i - 1) (by omega) (by omega)
        rw [h3 i (by omega) (by omega)]; omega
  · by_cases c : j < p
    · rw [h1 i i1 (by omega), h1 j (by omega) c]
      exact o2 i j i1 i2 (by omega)
    · by_cases c2 : j = p
      · rw [c2, h2, h1 i i1 (by omega)]
        have r := o1 i i1 (by omega)
        have h6 : B (o (p - 1)) ≤ B d := by omega
        by_cases c3 : i = p - 1
        · rw [← c3] at h6
          unfold ahd; omega
        · have := o2 i (p - 1) i1 (by omega) (by omega)
          unfold ahd at this ⊢; omega
      · rw [h3 j (by omega) (by omega)]
        by_cases c3 : i < p
        · rw [h1 i i1 c3]
          exact o2 i (j - 1) i1 (by omega) (by omega)
        · by_cases c4 : i = p
          · rw [c4, h2]
            have := h4 (j - 1) (by omega) (by omega)
            unfold ahd; omega
          · rw [h3 i (by omega) (by omega)]
            exact o2 (i - 1) (j - 1) (by omega) (by omega) (by omega)
section DS
variable {Q : Option Value → mm → Prop} {τ : Int64}
def bgC (ρ : rm) (x : Int) : Int := ρ 10 (ρ 27 x) + ρ 28 x
theorem c_ins {ρ : rm} {d : Int} {o : Int → Int} (hd : 0 ≤ d ∧ d < 10) (ho : SoD (bgC ρ) d o)
    (H : ∀ ρ' t', TI ρ' → (∀ a j, ¬ a = 30 → ρ' a j = ρ a j) → SoD (bgC ρ) (d + 1) (ρ' 30) → G 13 2 (some (.ref 2) :: some (vI (d + 1)) :: t') [] (toM ρ' τ) Q) :
    ∀ (p : Nat) (ρ1 : rm) (t : List (Option Value)), TI ρ1 → (∀ a j, ¬ a = 30 → ρ1 a j = ρ a j) → (p : Int) ≤ d → (∀ x, 0 ≤ x → x < (p : Int) → ρ1 30 x = o x) → (∀ x, (p : Int) < x → x ≤ d → ρ1 30 x = o (x - 1)) → (∀ x, (p : Int) ≤ x → x < d → bgC ρ d < bgC ρ (o x)) →
      G 13 12 (some (.ref 2) :: some (vI d) :: some (vI (p : Int)) :: t) [] (toM ρ1 τ) Q := by
  have fin : ∀ (p : Int) (ρ1 : rm) (t : List (Option Value)), 0 ≤ p → TI ρ1 → (∀ a j, ¬ a = 30 → ρ1 a j = ρ a j) → p ≤ d → (∀ x, 0 ≤ x → x < p → ρ1 30 x = o x) → (∀ x, p < x → x ≤ d → ρ1 30 x = o (x - 1)) → (∀ x, p ≤ x → x < d → bgC ρ d < bgC ρ (o x)) → (p = 0 ∨ bgC ρ (o (p - 1)) ≤ bgC ρ d) → G 13 2 (some (.ref 2) :: some (vI (d + 1)) :: t) [] (toM (rup ρ1 30 p d) τ) Q := by
    intro p ρ1 t p0 hT1 hK1 h1 h2 h3 h4 h5
    refine H _ _ (TI_up hT1 30 p (show 0 ≤ d ∧ d ≤ 9 by omega) (by omega)) (fun a j ha => by rw [rup_ne _ _ _ _ ha]; exact hK1 a j ha) (ins_ok ho ⟨p0, h1⟩ (fun x x1 x2 => by rw [rup_sl (by omega)]; exact h2 x x1 x2) (rup_same _ _ _ _) (fun x x1 x2 => by rw [rup_sl (by omega)]; exact h3 x x1 x2) h4 h5)
  intro p
  induction p with
  | zero =>
    intro ρ1 t hT1 hK1 h1 h2 h3 h4
    rw [b13_12 ρ1 τ d _ t hT1.1 ⟨by omega, by omega⟩ (by decide), if_pos (by decide), if_pos (by decide)]
    exact fin 0 ρ1 _ (by omega) hT1 hK1 (by omega) h2 h3 h4 (Or.inl rfl)
  | succ p ih =>
    intro ρ1 t hT1 hK1 h1 h2 h3 h4
    have sd : SM d := ⟨by omega, by omega⟩
    have sp : SM ((p + 1 : Nat) : Int) := ⟨by omega, by omega⟩
    have op := h2 (p : Int) (by omega) (by omega)
    have or_ := ho.1 (p : Int) (by omega) (by omega)
    have eb : ∀ x, ρ1 10 (ρ1 27 x) + ρ1 28 x = bgC ρ x := fun x => by
      unfold bgC
      rw [hK1 27 x (by decide), hK1 28 x (by decide), hK1 10 _ (by decide)]
    have r10 := fun x => hT1.1 10 x (by decide)
    have r28 := fun x => hT1.1 28 x (by decide)
    have b1 : SM (bgC ρ (o (p : Int))) := by rw [← eb]; have := r10 (ρ1 27 (o (p : Int))); have := r28 (o (p : Int)); exact ⟨by omega, by omega⟩
    have b2 : SM (bgC ρ d) := by rw [← eb]; have := r10 (ρ1 27 d); have := r28 d; exact ⟨by omega, by omega⟩
    rw [b13_12 ρ1 τ d _ t hT1.1 sd sp, if_neg (by omega), if_pos (by omega), show ((p + 1 : Nat) : Int) - 1 = (p : Int) by omega, op, s12 ρ1 τ _ hT1 (by omega), eb, b13_28 ρ1 τ d _ t _ hT1.1 sd sp b1, s12 ρ1 τ d hT1 hd, eb, b13_33 ρ1 τ d _ t _ _ hT1.1 sd sp b1 b2]
    by_cases c : bgC ρ (o (p : Int)) ≤ bgC ρ d
    · rw [if_pos c, if_pos (by omega)]
      exact fin ((p + 1 : Nat) : Int) ρ1 _ (by omega) hT1 hK1 h1 h2 h3 h4 (Or.inr (by rw [show ((p + 1 : Nat) : Int) - 1 = (p : Int) by omega]; exact c))
    · rw [if_neg c, if_pos (by omega), if_pos (by omega), show ((p + 1 : Nat) : Int) - 1 = (p : Int) by omega, show ((p + 1 : Nat) : Int) + (-1) = (p : Int) by omega, op]
      refine ih _ t (TI_up hT1 30 _ (show 0 ≤ o (p : Int) ∧ o (p : Int) ≤ 9 by omega) (by omega)) (fun a j ha => by rw [rup_ne _ _ _ _ ha]; exact hK1 a j ha) (by omega) (fun x x1 x2 => by rw [rup_sl (by omega)]; exact h2 x x1 (by omega)) (fun x x1 x2 => ?_) (fun x x1 x2 => ?_)
      · by_cases c2 : x = ((p + 1 : Nat) : Int)
        · rw [c2, rup_same, show ((p + 1 : Nat) : Int) - 1 = (p : Int) by omega]
        · rw [rup_sl c2]
          exact h3 x (by omega) x2
      · by_cases c2 : x = (p : Int)
        · rw [c2]; omega
        · exact h4 x (by omega) x2
theorem c_dset {ρ : rm} (hT : TI ρ) (H : ∀ ρ', TI ρ' → (∀ a j, ¬ a = 30 → ρ' a j = ρ a j) → SoD (bgC ρ) (ρ 2 4) (ρ' 30) → Q none (toM ρ' τ)) : G 13 0 [some (.ref 2)] [] (toM ρ τ) Q := by
  have q3 : 0 ≤ ρ 2 4 ∧ ρ 2 4 ≤ 10 := hT.2 2 4
  rw [b13_0 ρ τ hT.1]
  refine lpJ (S := rm) (P := fun i ρ' t => G 13 2 (some (.ref 2) :: some (vI i) :: t) [] (toM ρ' τ) Q) (inv := fun i ρ' => 0 ≤ i ∧ TI ρ' ∧ (∀ a j, ¬ a = 30 → ρ' a j = ρ a j) ∧ SoD (bgC ρ) i (ρ' 30)) (n := ρ 2 4) ?_ (ρ 2 4).toNat 0 ρ [] (by omega) ⟨by omega, hT, fun _ _ _ => rfl, fun i i1 i2 => by omega, fun i j i1 i2 i3 => by omega⟩ ?_
  · rintro i ρ1 t h1 ⟨h0, hT1, hK1, hS1⟩ H2
    have e1 : ρ1 2 4 = ρ 2 4 := hK1 2 4 (by decide)
    show G 13 2 (some (.ref 2) :: some (vI i) :: t) [] (toM ρ1 τ) Q
    rw [b13_2 ρ1 τ i t hT1.1 ⟨by omega, by omega⟩, if_neg (by omega)]
    have R := c_ins (τ := τ) (Q := Q) (ρ := ρ) (d := i) (o := ρ1 30) (by omega) hS1 (fun ρ' t' z1 z2 z3 => H2 _ _ ⟨by omega, z1, z2, z3⟩) i.toNat ρ1 t.tail hT1 hK1 (by omega) (fun x _ _ => rfl) (fun x x1 x2 => by omega) (fun x x1 x2 => by omega)
    rw [Int.toNat_of_nonneg h0] at R
    exact R
  · rintro ρ1 t ⟨h0, hT1, hK1, hS1⟩
    have e1 : ρ1 2 4 = ρ 2 4 := hK1 2 4 (by decide)
    show G 13 2 (some (.ref 2) :: some (vI (ρ 2 4)) :: t) [] (toM ρ1 τ) Q
    rw [b13_2 ρ1 τ _ t hT1.1 ⟨by omega, by omega⟩, if_pos (by omega)]
    exact H ρ1 hT1 hK1 hS1
end DS
