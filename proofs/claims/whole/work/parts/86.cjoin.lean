/-! the class joins its roads, and settles -/
section SJ
variable {Q : Option Value → mm → Prop} {τ : Int64}
theorem c_jrow {ρ ρ1 : rm} {n k i : Int} {D : Int → Int → Int} (hn : 2 ≤ n ∧ n ≤ 10) (h1 : ρ 1 1 = n) (hk : 0 ≤ k ∧ k < n) (hi : 0 ≤ i ∧ i < n) (hD : OKD n D) (hT1 : TI ρ1) (hK1 : KG ρ ρ1) (hM : MixD n D k i 0 (dC ρ1)) (t : List (Option Value))
    (H : ∀ ρ' t', TI ρ' → KG ρ ρ' → MixD n D k (i + 1) 0 (dC ρ') → G 31 12 (some (.ref 1) :: some (vI k) :: some (vI (i + 1)) :: t') [] (toM ρ' τ) Q) :
    G 31 12 (some (.ref 1) :: some (vI k) :: some (vI i) :: t) [] (toM ρ1 τ) Q := by
  have e1 : ρ1 1 1 = n := (hK1 1 1 (by omega)).trans h1
  have sk : SM k := ⟨by omega, by omega⟩
  have si : SM i := ⟨by omega, by omega⟩
  rw [b31_12 ρ1 τ k i t hT1.1 sk si, if_neg (by omega)]
  refine lpJ (S := rm) (P := fun j ρ' t => G 31 22 (some (.ref 1) :: some (vI k) :: some (vI i) :: some (vI j) :: t) [] (toM ρ' τ) Q) (inv := fun j ρ' => 0 ≤ j ∧ TI ρ' ∧ KG ρ ρ' ∧ MixD n D k i j (dC ρ')) (n := n) ?_ n.toNat 0 ρ1 _ (by omega) ⟨by omega, hT1, hK1, hM⟩ ?_
  · rintro j ρ2 t h3 ⟨h4, hT2, hK2, hM2⟩ H3
    have e2 : ρ2 1 1 = n := (hK2 1 1 (by omega)).trans h1
    have sj : SM j := ⟨by omega, by omega⟩
    have d1 := dC_bd hT2 (a := i) (by omega) j
    have d2 := dC_bd hT2 (a := i) (by omega) k
    have d3 := dC_bd hT2 (a := k) (by omega) j
    show G 31 22 (some (.ref 1) :: some (vI k) :: some (vI i) :: some (vI j) :: t) [] (toM ρ2 τ) Q
    rw [b31_22 ρ2 τ k i j t hT2.1 sk si sj, if_neg (by omega), if_pos (by omega), if_pos (by omega), if_pos (by omega), if_pos (by omega), if_pos (by omega), if_pos (by omega), if_pos (by omega)]
    have f1 : ρ2 (17 + i.toNat) j = dC ρ2 i j := rfl
    have f2 : ρ2 (17 + i.toNat) k = dC ρ2 i k := rfl
    have f3 : ρ2 (17 + k.toNat) j = dC ρ2 k j := rfl
    rw [f1, f2, f3, c_min hT2.1 ⟨by omega, by omega⟩ ⟨by omega, by omega⟩, b31_65 ρ2 τ k i j t j i _ hT2.1 sk si sj sj (by omega) ⟨by omega, by omega⟩, if_pos (by omega)]
    exact H3 _ _ ⟨by omega, TI_upR hT2 (by omega) j (by omega), hK2.up (by omega) j _, mix_step hD hM2 hk hi (by omega) (fun p q hp hq => dC_up hi.1 hp.1)⟩
  · rintro ρ2 t ⟨h4, hT2, hK2, hM2⟩
    have e2 : ρ2 1 1 = n := (hK2 1 1 (by omega)).trans h1
    show G 31 22 (some (.ref 1) :: some (vI k) :: some (vI i) :: some (vI n) :: t) [] (toM ρ2 τ) Q
    rw [b31_22 ρ2 τ k i n t hT2.1 sk si ⟨by omega, by omega⟩, if_pos (by omega)]
    exact H _ _ hT2 hK2 (mix_row hM2)
theorem c_join {ρ : rm} {D : Int → Int → Int} (hT : TI ρ) (hD : OKD (ρ 1 1) D) (hE : EqD (ρ 1 1) (dC ρ) D)
    (H : ∀ ρ', TI ρ' → KG ρ ρ' → EqD (ρ 1 1) (dC ρ') (fwA D (ρ 1 1).toNat) → Q none (toM ρ' τ)) : G 31 0 [some (.ref 1)] [] (toM ρ τ) Q := by
  have q1 : 2 ≤ ρ 1 1 ∧ ρ 1 1 ≤ 10 := hT.2 1 1
  rw [b31_0 ρ τ hT.1]
  refine lpJ (S := rm) (P := fun k ρ' t => G 31 2 (some (.ref 1) :: some (vI k) :: t) [] (toM ρ' τ) Q) (inv := fun k ρ' => 0 ≤ k ∧ TI ρ' ∧ KG ρ ρ' ∧ EqD (ρ 1 1) (dC ρ') (fwA D k.toNat)) (n := ρ 1 1) ?_ (ρ 1 1).toNat 0 ρ [] (by omega) ⟨by omega, hT, KG.refl ρ, hE⟩ ?_
  · rintro k ρ1 t h1 ⟨h0, hT1, hK1, hE1⟩ H2
    have e1 : ρ1 1 1 = ρ 1 1 := hK1 1 1 (by omega)
    have hok := fwA_ok hD k.toNat (by omega)
    show G 31 2 (some (.ref 1) :: some (vI k) :: t) [] (toM ρ1 τ) Q
    rw [b31_2 ρ1 τ k t hT1.1 ⟨by omega, by omega⟩, if_neg (by omega)]
    refine lpJ (S := rm) (P := fun i ρ' t => G 31 12 (some (.ref 1) :: some (vI k) :: some (vI i) :: t) [] (toM ρ' τ) Q) (inv := fun i ρ' => 0 ≤ i ∧ TI ρ' ∧ KG ρ ρ' ∧ MixD (ρ 1 1) (fwA D k.toNat) k i 0 (dC ρ')) (n := ρ 1 1) ?_ (ρ 1 1).toNat 0 ρ1 _ (by omega) ⟨by omega, hT1, hK1, mix_0 hE1⟩ ?_
    · rintro i ρ2 t h3 ⟨h4, hT2, hK2, hM2⟩ H3
      exact c_jrow q1 rfl ⟨h0, h1⟩ ⟨h4, h3⟩ hok hT2 hK2 hM2 t (fun ρ' t' z1 z2 z3 => H3 _ _ ⟨by omega, z1, z2, z3⟩)
    · rintro ρ2 t ⟨h4, hT2, hK2, hM2⟩
      have e2 : ρ2 1 1 = ρ 1 1 := hK2 1 1 (by omega)
      show G 31 12 (some (.ref 1) :: some (vI k) :: some (vI (ρ 1 1)) :: t) [] (toM ρ2 τ) Q
      rw [b31_12 ρ2 τ k _ t hT2.1 ⟨by omega, by omega⟩ ⟨by omega, by omega⟩, if_pos (by omega)]
      refine H2 _ _ ⟨by omega, hT2, hK2, fun p q hp hq => ?_⟩
      rw [mix_n hM2 p q hp hq, show (k + 1).toNat = k.toNat + 1 by omega]
      show fwS (fwA D k.toNat) k p q = fwS (fwA D k.toNat) (k.toNat : Int) p q
      rw [Int.toNat_of_nonneg h0]
  · rintro ρ1 t ⟨h0, hT1, hK1, hE1⟩
    have e1 : ρ1 1 1 = ρ 1 1 := hK1 1 1 (by omega)
    show G 31 2 (some (.ref 1) :: some (vI (ρ 1 1)) :: t) [] (toM ρ1 τ) Q
    rw [b31_2 ρ1 τ _ t hT1.1 ⟨by omega, by omega⟩, if_pos (by omega)]
    exact H _ hT1 hK1 hE1
def stD (ρ : rm) (far : Int) : Int → Int → Int := fwA (layN (rdD (ρ 12) far) (ρ 13) (ρ 14) (ρ 15) (ρ 1 2).toNat) (ρ 1 1).toNat
def KS (ρ ρ' : rm) : Prop := ∀ a j, ¬ (a = 10 ∨ (17 ≤ a ∧ a < 27)) → ρ' a j = ρ a j
theorem c_settle {ρ : rm} (hT : TI ρ) (h11 : ρ 11 0 = 0) (hw : ∀ q, 0 ≤ q → q < ρ 1 2 → ρ 13 q < ρ 1 1 ∧ ρ 14 q < ρ 1 1 ∧ ρ 13 q ≠ ρ 14 q)
    (H : ∀ ρ', TI ρ' → KS ρ ρ' → (∀ h, 0 ≤ h → h < ρ 1 1 → ρ' 10 h = sumR (ρ 11) 1 h.toNat) → EqD (ρ 1 1) (dC ρ') (stD ρ 1000000) → Q none (toM ρ' τ)) : G 28 0 [some (.ref 1)] [] (toM ρ τ) Q := by
  have q1 : 2 ≤ ρ 1 1 ∧ ρ 1 1 ≤ 10 := hT.2 1 1
  have q2 : 0 ≤ ρ 1 2 ∧ ρ 1 2 ≤ 8 := hT.2 1 2
  rw [b28_0 ρ τ hT.1]
  refine lpJ (S := Int × rm) (P := fun i s t => G 28 4 (some (.ref 1) :: some (vI s.1) :: some (vI i) :: t) [] (toM s.2 τ) Q) (inv := fun i s => 0 ≤ i ∧ TI s.2 ∧ (∀ a j, ¬ a = 10 → s.2 a j = ρ a j) ∧ (0 ≤ s.1 ∧ s.1 ≤ 999 * (i - 1) ∨ i = 0 ∧ s.1 = 0) ∧ (1 ≤ i → s.1 = sumR (ρ 11) 1 (i - 1).toNat) ∧ ∀ h, 0 ≤ h → h < i → s.2 10 h = sumR (ρ 11) 1 h.toNat) (n := ρ 1 1) ?_ (ρ 1 1).toNat 0 (0, ρ) [] (by omega) ⟨by omega, hT, fun _ _ _ => rfl, Or.inr ⟨rfl, rfl⟩, fun z => by omega, fun h z1 z2 => by omega⟩ ?_
  · rintro i ⟨o, ρ1⟩ t h1 ⟨h0, hT1, hK1, hb, hs, hv⟩ H2
    have e1 : ρ1 1 1 = ρ 1 1 := hK1 1 1 (by omega)
    have e11 : ρ1 11 i = ρ 11 i := hK1 11 i (by omega)
    have r11 : 0 ≤ ρ 11 i ∧ ρ 11 i ≤ 999 := hT.2 11 i
    dsimp only at hb hs hv hT1 hK1
    have hi0 : i = 0 → ρ 11 i = 0 := fun z => by rw [z]; exact h11
    show G 28 4 (some (.ref 1) :: some (vI o) :: some (vI i) :: t) [] (toM ρ1 τ) Q
    rw [b28_4 ρ1 τ o i t hT1.1 ⟨by omega, by omega⟩ ⟨by omega, by omega⟩, if_neg (by omega), if_pos (by omega), if_pos (by omega), e11]
    have key : o + ρ 11 i = sumR (ρ 11) 1 i.toNat := by
      by_cases c : i = 0
      · have := hi0 c
        rw [c] at this ⊢
        have e : sumR (ρ 11) 1 (0 : Int).toNat = 0 := rfl
        rw [e]
        omega
      · have e2 := hs (by omega)
        have e3 := sumR_snoc (ρ 11) (i - 1).toNat 1
        rw [show (i - 1).toNat + 1 = i.toNat by omega, show (1 : Int) + ((i - 1).toNat : Int) = i by omega] at e3
        omega
    have hbd : 0 ≤ o + ρ 11 i ∧ o + ρ 11 i ≤ 999 * i := by
      by_cases c : i = 0
      · have := hi0 c
        omega
      · omega
    refine H2 (o + ρ 11 i, rup ρ1 10 i (o + ρ 11 i)) t ⟨by omega, TI_up hT1 10 i (show 0 ≤ _ ∧ _ ≤ (8991 : Int) by omega) (by omega), fun a j ha => ?_, Or.inl (by dsimp only; omega), fun _ => ?_, fun h z1 z2 => ?_⟩
    · dsimp only
      rw [rup_ne _ _ _ _ ha]
      exact hK1 a j ha
    · dsimp only
      rw [show i + 1 - 1 = i by omega]
      exact key
    · dsimp only
      by_cases c : h = i
      · rw [c, rup_same]
        exact key
      · rw [rup_sl c]
        exact hv h z1 (by omega)
  · rintro ⟨o, ρ1⟩ t ⟨h0, hT1, hK1, hb, hs, hv⟩
    dsimp only at hb hs hv hT1 hK1
    have e1 : ρ1 1 1 = ρ 1 1 := hK1 1 1 (by omega)
    have e2 : ρ1 1 2 = ρ 1 2 := hK1 1 2 (by omega)
    have e12 : ρ1 12 = ρ 12 := funext fun j => hK1 12 j (by omega)
    have e13 : ρ1 13 = ρ 13 := funext fun j => hK1 13 j (by omega)
    have e14 : ρ1 14 = ρ 14 := funext fun j => hK1 14 j (by omega)
    have e15 : ρ1 15 = ρ 15 := funext fun j => hK1 15 j (by omega)
    have so : SM o := ⟨by omega, by omega⟩
    show G 28 4 (some (.ref 1) :: some (vI o) :: some (vI (ρ 1 1)) :: t) [] (toM ρ1 τ) Q
    rw [b28_4 ρ1 τ o _ t hT1.1 so ⟨by omega, by omega⟩, if_pos (by omega)]
    refine c_layRoads hT1 (by rw [e1, e2, e13, e14]; exact hw) (fun ρ2 hT2 hK2 hE2 => ?_)
    have g1 : ρ2 1 1 = ρ 1 1 := (hK2 1 1 (by omega)).trans e1
    rw [e1, e2, e12, e13, e14, e15] at hE2
    show G 28 38 (some (.ref 1) :: some (vI o) :: some (vI (ρ 1 1)) :: t) ((none : Option Value).toList ++ []) (toM ρ2 τ) Q
    rw [b28_38 ρ2 τ o _ t hT2.1 so ⟨by omega, by omega⟩]
    have hwy : ∀ h, 0 ≤ h → h < ρ 1 1 → 0 ≤ ρ 12 h ∧ ρ 12 h ≤ 99 := fun h _ _ => hT.2 12 h
    have ok := layN_ok (n := ρ 1 1) (fr := ρ 13) (to_ := ρ 14) (ov := ρ 15) (rdD_ok hwy (far := 1000000) (by omega)) (ρ 1 2).toNat (fun q z1 z2 => by
      have a1 := hw q z1 (by omega)
      have a2 : 0 ≤ ρ 13 q ∧ ρ 13 q ≤ 9 := hT.2 13 q
      have a3 : 0 ≤ ρ 14 q ∧ ρ 14 q ≤ 9 := hT.2 14 q
      have a4 : 0 ≤ ρ 15 q ∧ ρ 15 q ≤ 99 := hT.2 15 q
      omega)
    rw [← g1] at hE2 ok
    refine c_join hT2 ok hE2 (fun ρ3 hT3 hK3 hE3 => ?_)
    show G 28 42 (some (.ref 1) :: some (vI o) :: some (vI (ρ 1 1)) :: t) ((none : Option Value).toList ++ []) (toM ρ3 τ) Q
    rw [b28_42 ρ3 τ o _ t hT3.1 so ⟨by omega, by omega⟩]
    rw [g1] at hE3
    refine H ρ3 hT3 (fun a j ha => ?_) (fun h z1 z2 => ?_) hE3
    · rw [hK3 a j (by omega), hK2 a j (by omega), hK1 a j (by omega)]
    · rw [hK3 10 h (by omega), hK2 10 h (by omega)]
      exact hv h z1 z2
end SJ
