/-! the class settles its houses -/
def dC (ρ : rm) : Int → Int → Int := fun a b => ρ (17 + a.toNat) b
def KG (ρ ρ' : rm) : Prop := ∀ a j, ¬ (17 ≤ a ∧ a < 27) → ρ' a j = ρ a j
theorem KG.refl (ρ : rm) : KG ρ ρ := fun _ _ _ => rfl
theorem KG.trans {a b c : rm} (h1 : KG a b) (h2 : KG b c) : KG a c := fun k j h => (h2 k j h).trans (h1 k j h)
theorem KG.up {ρ ρ' : rm} (h : KG ρ ρ') {a : Int} (ha : 0 ≤ a ∧ a < 10) (i x : Int) : KG ρ (rup ρ' (17 + a.toNat) i x) := fun k j hk => by
  rw [← h k j hk]
  exact rup_ne _ _ _ _ (by omega)
theorem dC_up {ρ : rm} {a b x p q : Int} (ha : 0 ≤ a) (hp : 0 ≤ p) : dC (rup ρ (17 + a.toNat) b x) p q = if p = a ∧ q = b then x else dC ρ p q := by
  unfold dC rup
  by_cases c : p = a ∧ q = b
  · rw [if_pos c, if_pos (by omega)]
  · rw [if_neg c, if_neg (by omega)]
theorem dC_bd {ρ : rm} (hT : TI ρ) {a : Int} (ha : 0 ≤ a ∧ a < 10) (b : Int) : 0 ≤ dC ρ a b ∧ dC ρ a b ≤ 1000000 := TI.row hT (k := 17 + a.toNat) (by omega) b
section ST
variable {Q : Option Value → mm → Prop} {τ : Int64}
theorem c_lay {ρ : rm} (hT : TI ρ) {a b m : Int} (ha : 0 ≤ a ∧ a < ρ 1 1) (hb : 0 ≤ b ∧ b < ρ 1 1) (hm : 0 ≤ m ∧ m ≤ 99) (hs : dC ρ a b = dC ρ b a)
    (H : ∀ ρ', TI ρ' → KG ρ ρ' → EqD (ρ 1 1) (dC ρ') (lay (dC ρ) a b m) → Q none (toM ρ' τ)) : G 30 0 [some (.ref 1), some (vI a), some (vI b), some (vI m)] [] (toM ρ τ) Q := by
  have q1 : 2 ≤ ρ 1 1 ∧ ρ 1 1 ≤ 10 := hT.2 1 1
  have sa : SM a := ⟨by omega, by omega⟩
  have sb : SM b := ⟨by omega, by omega⟩
  have sm : SM m := ⟨by omega, by omega⟩
  rw [b30_0 ρ τ a b m hT.1 sa sb sm, c_has hT.1 ⟨by omega, by omega⟩, tv_t (by omega), b30_5 ρ τ a b m [] 1 hT.1 sa sb sm (by decide), if_neg (by decide), c_has hT.1 ⟨by omega, by omega⟩, tv_t (by omega), b30_13 ρ τ a b m [] 1 hT.1 sa sb sm (by decide), if_neg (by decide), if_pos (by omega), if_pos (by omega)]
  have e0 : ρ (17 + a.toNat) b = dC ρ a b := rfl
  rw [e0]
  by_cases c : dC ρ a b ≤ m
  · rw [if_pos c]
    refine H ρ hT (KG.refl ρ) (fun p q hp hq => ?_)
    unfold lay
    split
    · rename_i z
      rcases z with z | z
      · rw [z.1, z.2]; omega
      · rw [z.1, z.2]; omega
    · rfl
  · rw [if_neg c, if_pos (by omega), if_pos (by omega), if_pos (by omega), if_pos (by omega)]
    refine H _ (TI_upR (TI_upR hT (by omega) b (by omega)) (by omega) a (by omega)) (((KG.refl ρ).up (by omega) b m).up (by omega) a m) (fun p q hp hq => ?_)
    rw [dC_up hb.1 hp.1, dC_up ha.1 hp.1]
    unfold lay
    by_cases c1 : p = b ∧ q = a
    · rw [if_pos c1, if_pos (Or.inr c1), c1.1, c1.2]; omega
    · rw [if_neg c1]
      by_cases c2 : p = a ∧ q = b
      · rw [if_pos c2, if_pos (Or.inl c2), c2.1, c2.2]; omega
      · rw [if_neg c2, if_neg (by omega)]
def filD (n i j : Int) (M : Int → Int → Int) : Prop := ∀ p q, (0 ≤ p ∧ p < n) → (0 ≤ q ∧ q < n) → (p < i ∨ (p = i ∧ q < j)) → M p q = if p = q then 0 else 1000000
def rdH (w : Int → Int) (h far : Int) : Int → Int → Int := fun p q => if p = q then 0 else if q = p + 1 ∧ p < h then w p else if p = q + 1 ∧ q < h then w q else far
theorem rdH_lay {n h : Int} {w : Int → Int} (hw : ∀ h, 0 ≤ h → h < n → 0 ≤ w h ∧ w h ≤ 99) (hh : 0 ≤ h ∧ h < n) : EqD n (lay (rdH w h 1000000) h (h + 1) (w h)) (rdH w (h + 1) 1000000) := by
  intro p q hp hq
  have h1 := hw h hh.1 hh.2
  unfold lay rdH
  by_cases c1 : p = h ∧ q = h + 1
  · rw [if_pos (Or.inl c1), if_neg (by omega), if_neg (by omega), if_neg (by omega), if_neg (by omega), if_pos (by omega), c1.1]
    omega
  · by_cases c2 : p = h + 1 ∧ q = h
    · rw [if_pos (Or.inr c2), if_neg (by omega), if_neg (by omega), if_neg (by omega), if_neg (by omega), if_neg (by omega), if_pos (by omega), c2.2]
      omega
    · rw [if_neg (by omega)]
      by_cases c3 : p = q
      · rw [if_pos c3, if_pos c3]
      · rw [if_neg c3, if_neg c3]
        by_cases c4 : q = p + 1 ∧ p < h
        · rw [if_pos c4, if_pos (by omega)]
        · rw [if_neg c4, if_neg (by omega : ¬ (q = p + 1 ∧ p < h + 1))]
          by_cases c5 : p = q + 1 ∧ q < h
          · rw [if_pos c5, if_pos (by omega)]
          · rw [if_neg c5, if_neg (by omega)]
theorem rdH_ok {n h : Int} {w : Int → Int} (hw : ∀ h, 0 ≤ h → h < n → 0 ≤ w h ∧ w h ≤ 99) : OKD n (rdH w h 1000000) := by
  intro p q hp hq
  have h1 := hw p hp.1 hp.2
  have h2 := hw q hq.1 hq.2
  unfold rdH
  refine ⟨?_, ?_, fun e => if_pos e⟩
  · (repeat' split) <;> omega
  · (repeat' split) <;> omega
theorem rdH_end {n : Int} {w : Int → Int} : EqD n (rdH w (n - 1) 1000000) (rdD w 1000000) := by
  intro p q hp hq
  unfold rdH rdD
  (repeat' split) <;> omega
theorem c_fill {ρ : rm} (hT : TI ρ) (H : ∀ ρ' t', TI ρ' → KG ρ ρ' → EqD (ρ 1 1) (dC ρ') (rdH (ρ 12) 0 1000000) → G 29 53 (some (.ref 1) :: some (vI 0) :: t') [] (toM ρ' τ) Q) : G 29 0 [some (.ref 1)] [] (toM ρ τ) Q := by
  have q1 : 2 ≤ ρ 1 1 ∧ ρ 1 1 ≤ 10 := hT.2 1 1
  rw [b29_0 ρ τ hT.1]
  refine lpJ (S := rm) (P := fun i ρ' t => G 29 2 (some (.ref 1) :: some (vI i) :: t) [] (toM ρ' τ) Q) (inv := fun i ρ' => 0 ≤ i ∧ TI ρ' ∧ KG ρ ρ' ∧ filD (ρ 1 1) i 0 (dC ρ')) (n := ρ 1 1) ?_ (ρ 1 1).toNat 0 ρ [] (by omega) ⟨by omega, hT, KG.refl ρ, fun p q hp hq z => by omega⟩ ?_
  · rintro i ρ1 t h1 ⟨h0, hT1, hK, hF⟩ H2
    have e1 : ρ1 1 1 = ρ 1 1 := hK 1 1 (by omega)
    show G 29 2 (some (.ref 1) :: some (vI i) :: t) [] (toM ρ1 τ) Q
    rw [b29_2 ρ1 τ i t hT1.1 ⟨by omega, by omega⟩, if_neg (by omega)]
    refine lpJ (S := rm) (P := fun j ρ' t => G 29 12 (some (.ref 1) :: some (vI i) :: some (vI j) :: t) [] (toM ρ' τ) Q) (inv := fun j ρ' => 0 ≤ j ∧ TI ρ' ∧ KG ρ ρ' ∧ filD (ρ 1 1) i j (dC ρ')) (n := ρ 1 1) ?_ (ρ 1 1).toNat 0 ρ1 _ (by omega) ⟨by omega, hT1, hK, hF⟩ ?_
    · rintro j ρ2 t h3 ⟨h4, hT2, hK2, hF2⟩ H3
      have e2 : ρ2 1 1 = ρ 1 1 := hK2 1 1 (by omega)
      show G 29 12 (some (.ref 1) :: some (vI i) :: some (vI j) :: t) [] (toM ρ2 τ) Q
      rw [b29_12 ρ2 τ i j t hT2.1 ⟨by omega, by omega⟩ ⟨by omega, by omega⟩, if_neg (by omega), if_pos (by omega)]
      by_cases c : i = j
      · rw [if_pos c, if_pos (by omega)]
        refine H3 _ _ ⟨by omega, TI_upR hT2 (by omega) j (by omega), hK2.up (by omega) j 0, fun p q hp hq z => ?_⟩
        rw [dC_up h0 hp.1]
        split
        · rw [if_pos (by omega)]
        · exact hF2 p q hp hq (by omega)
      · rw [if_neg c, if_pos (by omega)]
        refine H3 _ _ ⟨by omega, TI_upR hT2 (by omega) j (by omega), hK2.up (by omega) j 1000000, fun p q hp hq z => ?_⟩
        rw [dC_up h0 hp.1]
        split
        · rw [if_neg (by omega)]
        · exact hF2 p q hp hq (by omega)
    · rintro ρ2 t ⟨h4, hT2, hK2, hF2⟩
      have e2 : ρ2 1 1 = ρ 1 1 := hK2 1 1 (by omega)
      show G 29 12 (some (.ref 1) :: some (vI i) :: some (vI (ρ 1 1)) :: t) [] (toM ρ2 τ) Q
      rw [b29_12 ρ2 τ i _ t hT2.1 ⟨by omega, by omega⟩ ⟨by omega, by omega⟩, if_pos (by omega)]
      exact H2 _ _ ⟨by omega, hT2, hK2, fun p q hp hq z => hF2 p q hp hq (by omega)⟩
  · rintro ρ1 t ⟨h0, hT1, hK, hF⟩
    have e1 : ρ1 1 1 = ρ 1 1 := hK 1 1 (by omega)
    show G 29 2 (some (.ref 1) :: some (vI (ρ 1 1)) :: t) [] (toM ρ1 τ) Q
    rw [b29_2 ρ1 τ _ t hT1.1 ⟨by omega, by omega⟩, if_pos (by omega)]
    refine H _ _ hT1 hK (fun p q hp hq => ?_)
    rw [hF p q hp hq (by omega)]
    unfold rdH
    (repeat' split) <;> omega
theorem c_layRoads {ρ : rm} (hT : TI ρ) (hw : ∀ q, 0 ≤ q → q < ρ 1 2 → ρ 13 q < ρ 1 1 ∧ ρ 14 q < ρ 1 1 ∧ ρ 13 q ≠ ρ 14 q)
    (H : ∀ ρ', TI ρ' → KG ρ ρ' → EqD (ρ 1 1) (dC ρ') (layN (rdD (ρ 12) 1000000) (ρ 13) (ρ 14) (ρ 15) (ρ 1 2).toNat) → Q none (toM ρ' τ)) : G 29 0 [some (.ref 1)] [] (toM ρ τ) Q := by
  have q1 : 2 ≤ ρ 1 1 ∧ ρ 1 1 ≤ 10 := hT.2 1 1
  have q2 : 0 ≤ ρ 1 2 ∧ ρ 1 2 ≤ 8 := hT.2 1 2
  have hwy : ∀ h, 0 ≤ h → h < ρ 1 1 → 0 ≤ ρ 12 h ∧ ρ 12 h ≤ 99 := fun h _ _ => hT.2 12 h
  refine c_fill hT (fun ρ0 t0 hT0 hK0 hE0 => ?_)
  refine lpJ (S := rm) (P := fun i ρ' t => G 29 53 (some (.ref 1) :: some (vI i) :: t) [] (toM ρ' τ) Q) (inv := fun i ρ' => 0 ≤ i ∧ TI ρ' ∧ KG ρ ρ' ∧ EqD (ρ 1 1) (dC ρ') (rdH (ρ 12) i 1000000)) (n := ρ 1 1 - 1) ?_ (ρ 1 1 - 1).toNat 0 ρ0 t0 (by omega) ⟨by omega, hT0, hK0, hE0⟩ ?_
  · rintro i ρ1 t h1 ⟨h0, hT1, hK, hE⟩ H2
    have e1 : ρ1 1 1 = ρ 1 1 := hK 1 1 (by omega)
    have e12 : ρ1 12 i = ρ 12 i := hK 12 i (by omega)
    have hy := hwy i h0 (by omega)
    have ok := (rdH_ok (n := ρ 1 1) (h := i) hwy).cg hE
    show G 29 53 (some (.ref 1) :: some (vI i) :: t) [] (toM ρ1 τ) Q
    rw [b29_53 ρ1 τ i t hT1.1 ⟨by omega, by omega⟩, if_neg (by omega), if_pos (by omega), e12]
    refine c_lay hT1 (by omega) (by omega) hy ((ok i (i + 1) (by omega) (by omega)).2.1) (fun ρ2 hT2 hK2 hE2 => ?_)
    show G 29 77 (some (.ref 1) :: some (vI i) :: t) ((none : Option Value).toList ++ []) (toM ρ2 τ) Q
    rw [b29_77 ρ2 τ i t hT2.1 ⟨by omega, by omega⟩]
    refine H2 _ _ ⟨by omega, hT2, hK.trans hK2, fun p q hp hq => ?_⟩
    rw [e1] at hE2
    rw [hE2 p q hp hq, lay_cg hE p q hp hq]
    exact rdH_lay hwy (by omega) p q hp hq
  · rintro ρ1 t ⟨h0, hT1, hK, hE⟩
    have e1 : ρ1 1 1 = ρ 1 1 := hK 1 1 (by omega)
    show G 29 53 (some (.ref 1) :: some (vI (ρ 1 1 - 1)) :: t) [] (toM ρ1 τ) Q
    rw [b29_53 ρ1 τ _ t hT1.1 ⟨by omega, by omega⟩, if_pos (by omega)]
    have hE' : EqD (ρ 1 1) (dC ρ1) (rdD (ρ 12) 1000000) := fun p q hp hq => (hE p q hp hq).trans (rdH_end p q hp hq)
    have wok : ∀ q, 0 ≤ q → q < ρ 1 2 → (0 ≤ ρ 13 q ∧ ρ 13 q < ρ 1 1) ∧ (0 ≤ ρ 14 q ∧ ρ 14 q < ρ 1 1) ∧ ρ 13 q ≠ ρ 14 q ∧ 0 ≤ ρ 15 q := fun q z1 z2 => by
      have a1 := hw q z1 z2
      have a2 : 0 ≤ ρ 13 q ∧ ρ 13 q ≤ 9 := hT.2 13 q
      have a3 : 0 ≤ ρ 14 q ∧ ρ 14 q ≤ 9 := hT.2 14 q
      have a4 : 0 ≤ ρ 15 q ∧ ρ 15 q ≤ 99 := hT.2 15 q
      omega
    refine lpJ (S := rm) (P := fun i ρ' t => G 29 85 (some (.ref 1) :: some (vI i) :: t) [] (toM ρ' τ) Q) (inv := fun i ρ' => 0 ≤ i ∧ TI ρ' ∧ KG ρ ρ' ∧ EqD (ρ 1 1) (dC ρ') (layN (rdD (ρ 12) 1000000) (ρ 13) (ρ 14) (ρ 15) i.toNat)) (n := ρ 1 2) ?_ (ρ 1 2).toNat 0 ρ1 t (by omega) ⟨by omega, hT1, hK, hE'⟩ ?_
    · rintro i ρ2 t h1 ⟨h0, hT2, hK2, hE2⟩ H2
      have e1 : ρ2 1 1 = ρ 1 1 := hK2 1 1 (by omega)
      have e2 : ρ2 1 2 = ρ 1 2 := hK2 1 2 (by omega)
      have wq := wok i h0 h1
      have a4 : 0 ≤ ρ 15 i ∧ ρ 15 i ≤ 99 := hT.2 15 i
      have ok := (layN_ok (n := ρ 1 1) (fr := ρ 13) (to_ := ρ 14) (ov := ρ 15) (rdD_ok hwy (by omega)) i.toNat (fun q z1 z2 => wok q z1 (by omega))).cg hE2
      show G 29 85 (some (.ref 1) :: some (vI i) :: t) [] (toM ρ2 τ) Q
      rw [b29_85 ρ2 τ i t hT2.1 ⟨by omega, by omega⟩, if_neg (by omega), if_pos (by omega), if_pos (by omega), if_pos (by omega), hK2 13 i (by omega), hK2 14 i (by omega), hK2 15 i (by omega)]
      refine c_lay hT2 (by rw [e1]; exact wq.1) (by rw [e1]; exact wq.2.1) a4 ((ok _ _ wq.1 wq.2.1).2.1) (fun ρ3 hT3 hK3 hE3 => ?_)
      show G 29 115 (some (.ref 1) :: some (vI i) :: t) ((none : Option Value).toList ++ []) (toM ρ3 τ) Q
      rw [b29_115 ρ3 τ i t hT3.1 ⟨by omega, by omega⟩]
      refine H2 _ _ ⟨by omega, hT3, hK2.trans hK3, fun p q hp hq => ?_⟩
      rw [e1] at hE3
      rw [hE3 p q hp hq, lay_cg hE2 p q hp hq, show (i + 1).toNat = i.toNat + 1 by omega]
      show _ = lay (layN (rdD (ρ 12) 1000000) (ρ 13) (ρ 14) (ρ 15) i.toNat) (ρ 13 (i.toNat : Int)) (ρ 14 (i.toNat : Int)) (ρ 15 (i.toNat : Int)) p q
      rw [Int.toNat_of_nonneg h0]
    · rintro ρ2 t ⟨h0, hT2, hK2, hE2⟩
      have e2 : ρ2 1 2 = ρ 1 2 := hK2 1 2 (by omega)
      show G 29 85 (some (.ref 1) :: some (vI (ρ 1 2)) :: t) [] (toM ρ2 τ) Q
      rw [b29_85 ρ2 τ _ t hT2.1 ⟨by omega, by omega⟩, if_pos (by omega)]
      exact H _ hT2 hK2 hE2
end ST
