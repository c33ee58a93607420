/-! the reference lays its roads -/
def dM (ρ : rm) : Int → Int → Int := fun a b => ρ 57 (10 * a + b)
def KD (ρ ρ' : rm) : Prop := ∀ a j, ¬ a = 57 → ρ' a j = ρ a j
theorem KD.refl (ρ : rm) : KD ρ ρ := fun _ _ _ => rfl
theorem KD.up {ρ ρ' : rm} (h : KD ρ ρ') (i x : Int) : KD ρ (rup ρ' 57 i x) := fun k j hk => by
  rw [← h k j hk]
  exact rup_ne _ _ _ _ hk
theorem dM_up {ρ : rm} {a b x p q : Int} (hb : 0 ≤ b ∧ b < 10) (hq : 0 ≤ q ∧ q < 10) : dM (rup ρ 57 (10 * a + b) x) p q = if p = a ∧ q = b then x else dM ρ p q := by
  unfold dM rup
  by_cases c : p = a ∧ q = b
  · rw [if_pos c, if_pos (by omega)]
  · rw [if_neg c, if_neg (by omega)]
theorem dM_bd {ρ : rm} (hT : TI ρ) (a b : Int) : 0 ≤ dM ρ a b ∧ dM ρ a b ≤ 100000 := hT.2 57 (10 * a + b)
theorem TI_57 {ρ : rm} (hT : TI ρ) (i : Int) {x : Int} (hx : 0 ≤ x ∧ x ≤ 100000) : TI (rup ρ 57 i x) := TI_up hT 57 i hx (by omega)
def filM (n i j : Int) (w : Int → Int) (M : Int → Int → Int) : Prop := ∀ p q, (0 ≤ p ∧ p < n) → (0 ≤ q ∧ q < n) → (p < i ∨ (p = i ∧ q < j)) → M p q = rdD w 100000 p q
section ML
variable {Q : Option Value → mm → Prop} {τ : Int64}
theorem m_fill {ρ : rm} (hT : TI ρ) (H : ∀ ρ' t', TI ρ' → KD ρ ρ' → EqD (ρ 51 0) (dM ρ') (rdD (ρ 53) 100000) → G 122 88 (some (.ref 51) :: some (vI 0) :: t') [] (toM ρ' τ) Q) : G 122 0 [some (.ref 51)] [] (toM ρ τ) Q := by
  have q1 : 2 ≤ ρ 51 0 ∧ ρ 51 0 ≤ 10 := hT.2 51 0
  rw [b122_0 ρ τ hT.1]
  refine lpJ (S := rm) (P := fun i ρ' t => G 122 2 (some (.ref 51) :: some (vI i) :: t) [] (toM ρ' τ) Q) (inv := fun i ρ' => 0 ≤ i ∧ TI ρ' ∧ KD ρ ρ' ∧ filM (ρ 51 0) i 0 (ρ 53) (dM ρ')) (n := ρ 51 0) ?_ (ρ 51 0).toNat 0 ρ [] (by omega) ⟨by omega, hT, KD.refl ρ, fun p q hp hq z => by omega⟩ ?_
  · rintro i ρ1 t h1 ⟨h0, hT1, hK, hF⟩ H2
    have e1 : ρ1 51 0 = ρ 51 0 := hK 51 0 (by omega)
    show G 122 2 (some (.ref 51) :: some (vI i) :: t) [] (toM ρ1 τ) Q
    rw [b122_2 ρ1 τ i t hT1.1 ⟨by omega, by omega⟩, if_neg (by omega)]
    refine lpJ (S := rm) (P := fun j ρ' t => G 122 12 (some (.ref 51) :: some (vI i) :: some (vI j) :: t) [] (toM ρ' τ) Q) (inv := fun j ρ' => 0 ≤ j ∧ TI ρ' ∧ KD ρ ρ' ∧ filM (ρ 51 0) i j (ρ 53) (dM ρ')) (n := ρ 51 0) ?_ (ρ 51 0).toNat 0 ρ1 _ (by omega) ⟨by omega, hT1, hK, hF⟩ ?_
    · rintro j ρ2 t h3 ⟨h4, hT2, hK2, hF2⟩ H3
      have e2 : ρ2 51 0 = ρ 51 0 := hK2 51 0 (by omega)
      have ri : 0 ≤ ρ 53 i ∧ ρ 53 i ≤ 99 := hT.2 53 i
      have rj : 0 ≤ ρ 53 j ∧ ρ 53 j ≤ 99 := hT.2 53 j
      have nx_ : ∀ x t', (0 ≤ x ∧ x ≤ 100000) → x = rdD (ρ 53) 100000 i j → G 122 12 (some (.ref 51) :: some (vI i) :: some (vI (j + 1)) :: t') [] (toM (rup ρ2 57 (10 * i + j) x) τ) Q := by
        intro x t' hx ex_
        refine H3 _ _ ⟨by omega, TI_57 hT2 _ hx, hK2.up _ x, fun p q hp hq z => ?_⟩
        rw [dM_up (by omega) (by omega)]
        by_cases c : p = i ∧ q = j
        · rw [if_pos c, c.1, c.2]; exact ex_
        · rw [if_neg c]
          exact hF2 p q hp hq (by omega)
      show G 122 12 (some (.ref 51) :: some (vI i) :: some (vI j) :: t) [] (toM ρ2 τ) Q
      rw [b122_12 ρ2 τ i j t hT2.1 ⟨by omega, by omega⟩ ⟨by omega, by omega⟩, if_neg (by omega), hK2 53 i (by decide), hK2 53 j (by decide)]
      by_cases c : i = j
      · rw [if_pos c, if_pos (by omega)]
        exact nx_ 0 _ (by omega) (by unfold rdD; rw [if_pos c])
      · rw [if_neg c]
        by_cases c2 : j = i + 1
        · rw [if_pos c2, if_pos (by omega), if_pos (by omega)]
          exact nx_ _ _ (by omega) (by unfold rdD; rw [if_neg c, if_pos c2])
        · rw [if_neg c2]
          by_cases c3 : i = j + 1
          · rw [if_pos c3, if_pos (by omega), if_pos (by omega)]
            exact nx_ _ _ (by omega) (by unfold rdD; rw [if_neg c, if_neg c2, if_pos c3])
          · rw [if_neg c3, if_pos (by omega)]
            exact nx_ _ _ (by omega) (by unfold rdD; rw [if_neg c, if_neg c2, if_neg c3])
    · rintro ρ2 t ⟨h4, hT2, hK2, hF2⟩
      have e2 : ρ2 51 0 = ρ 51 0 := hK2 51 0 (by omega)
      show G 122 12 (some (.ref 51) :: some (vI i) :: some (vI (ρ 51 0)) :: t) [] (toM ρ2 τ) Q
      rw [b122_12 ρ2 τ i _ t hT2.1 ⟨by omega, by omega⟩ ⟨by omega, by omega⟩, if_pos (by omega)]
      exact H2 _ _ ⟨by omega, hT2, hK2, fun p q hp hq z => hF2 p q hp hq (by omega)⟩
  · rintro ρ1 t ⟨h0, hT1, hK, hF⟩
    have e1 : ρ1 51 0 = ρ 51 0 := hK 51 0 (by omega)
    show G 122 2 (some (.ref 51) :: some (vI (ρ 51 0)) :: t) [] (toM ρ1 τ) Q
    rw [b122_2 ρ1 τ _ t hT1.1 ⟨by omega, by omega⟩, if_pos (by omega)]
    exact H _ _ hT1 hK (fun p q hp hq => hF p q hp hq (by omega))
/-- the walls -/
theorem m_walls {ρ : rm} (hT : TI ρ) (hw : ∀ q, 0 ≤ q → q < ρ 51 3 → ρ 54 (3 * q) < ρ 51 0 ∧ ρ 54 (3 * q + 1) < ρ 51 0 ∧ ρ 54 (3 * q) ≠ ρ 54 (3 * q + 1))
    (H : ∀ ρ' t', TI ρ' → KD ρ ρ' → EqD (ρ 51 0) (dM ρ') (layN (rdD (ρ 53) 100000) (fun q => ρ 54 (3 * q)) (fun q => ρ 54 (3 * q + 1)) (fun q => ρ 54 (3 * q + 2)) (ρ 51 3).toNat) → G 122 200 (some (.ref 51) :: some (vI 0) :: t') [] (toM ρ' τ) Q) : G 122 0 [some (.ref 51)] [] (toM ρ τ) Q := by
  have q1 : 2 ≤ ρ 51 0 ∧ ρ 51 0 ≤ 10 := hT.2 51 0
  have q2 : 0 ≤ ρ 51 3 ∧ ρ 51 3 ≤ 8 := hT.2 51 3
  have hwy : ∀ h, 0 ≤ h → h < ρ 51 0 → 0 ≤ ρ 53 h ∧ ρ 53 h ≤ 99 := fun h _ _ => hT.2 53 h
  have r2 : ∀ q, 0 ≤ ρ 54 (3 * q + 2) ∧ ρ 54 (3 * q + 2) ≤ 99 := fun q => by
    have := hT.2 54 (3 * q + 2)
    rwa [show loB 54 (3 * q + 2) = 0 from rfl, show hiB 54 (3 * q + 2) = if (3 * q + 2) % 3 = 2 then 99 else 9 from rfl, if_pos (by omega)] at this
  have wok : ∀ q, 0 ≤ q → q < ρ 51 3 → (0 ≤ ρ 54 (3 * q) ∧ ρ 54 (3 * q) < ρ 51 0) ∧ (0 ≤ ρ 54 (3 * q + 1) ∧ ρ 54 (3 * q + 1) < ρ 51 0) ∧ ρ 54 (3 * q) ≠ ρ 54 (3 * q + 1) ∧ 0 ≤ ρ 54 (3 * q + 2) := fun q z1 z2 => by
    have a1 := hw q z1 z2
    have a2 := T54a hT q
    have a3 := T54b hT q
    have a4 := r2 q
    omega
  refine m_fill hT (fun ρ0 t0 hT0 hK0 hE0 => ?_)
  refine lpJ (S := rm) (P := fun i ρ' t => G 122 88 (some (.ref 51) :: some (vI i) :: t) [] (toM ρ' τ) Q) (inv := fun i ρ' => 0 ≤ i ∧ TI ρ' ∧ KD ρ ρ' ∧ EqD (ρ 51 0) (dM ρ') (layN (rdD (ρ 53) 100000) (fun q => ρ 54 (3 * q)) (fun q => ρ 54 (3 * q + 1)) (fun q => ρ 54 (3 * q + 2)) i.toNat)) (n := ρ 51 3) ?_ (ρ 51 3).toNat 0 ρ0 t0 (by omega) ⟨by omega, hT0, hK0, hE0⟩ ?_
  · rintro i ρ2 t h1 ⟨h0, hT2, hK2, hE2⟩ H2
    have e2 : ρ2 51 3 = ρ 51 3 := hK2 51 3 (by omega)
    have wq := wok i h0 h1
    have r3 := r2 i
    have ok := (layN_ok (n := ρ 51 0) (fr := fun q => ρ 54 (3 * q)) (to_ := fun q => ρ 54 (3 * q + 1)) (ov := fun q => ρ 54 (3 * q + 2)) (rdD_ok hwy (far := 100000) (by omega)) i.toNat (fun q z1 z2 => wok q z1 (by omega))).cg hE2
    show G 122 88 (some (.ref 51) :: some (vI i) :: t) [] (toM ρ2 τ) Q
    rw [b122_88 ρ2 τ i t hT2.1 ⟨by omega, by omega⟩, if_neg (by omega), hK2 54 (3 * i) (by decide), hK2 54 (3 * i + 1) (by decide), hK2 54 (3 * i + 2) (by decide)]
    have lst : layN (rdD (ρ 53) 100000) (fun q => ρ 54 (3 * q)) (fun q => ρ 54 (3 * q + 1)) (fun q => ρ 54 (3 * q + 2)) (i + 1).toNat = lay (layN (rdD (ρ 53) 100000) (fun q => ρ 54 (3 * q)) (fun q => ρ 54 (3 * q + 1)) (fun q => ρ 54 (3 * q + 2)) i.toNat) (ρ 54 (3 * i)) (ρ 54 (3 * i + 1)) (ρ 54 (3 * i + 2)) := by
      rw [show (i + 1).toNat = i.toNat + 1 by omega]
      show lay _ (ρ 54 (3 * (i.toNat : Int))) (ρ 54 (3 * (i.toNat : Int) + 1)) (ρ 54 (3 * (i.toNat : Int) + 2)) = _
      rw [Int.toNat_of_nonneg h0]
    generalize ρ 54 (3 * i) = a at *
    generalize ρ 54 (3 * i + 1) = b at *
    generalize ρ 54 (3 * i + 2) = m at *
    have f1 : ρ2 57 (10 * a + b) = dM ρ2 a b := rfl
    have sy := (ok a b wq.1 wq.2.1).2.1
    have bd := dM_bd hT2 a b
    rw [f1]
    have nx_ : ∀ x t', (0 ≤ x ∧ x ≤ 100000) → x = min m (dM ρ2 a b) → G 122 88 (some (.ref 51) :: some (vI (i + 1)) :: t') [] (toM (rup (rup ρ2 57 (10 * a + b) x) 57 (10 * b + a) x) τ) Q := by
      intro x t' hx ex_
      refine H2 _ _ ⟨by omega, TI_57 (TI_57 hT2 _ hx) _ hx, (hK2.up _ x).up _ x, fun p q hp hq => ?_⟩
      rw [dM_up (by omega) (by omega), dM_up (by omega) (by omega), lst, ← lay_cg hE2 p q hp hq]
      unfold lay
      by_cases c1 : p = b ∧ q = a
      · rw [if_pos c1, if_pos (Or.inr c1), c1.1, c1.2]; omega
      · rw [if_neg c1]
        by_cases c2 : p = a ∧ q = b
        · rw [if_pos c2, if_pos (Or.inl c2), c2.1, c2.2]; omega
        · rw [if_neg c2, if_neg (by omega)]
    rw [if_pos (by omega), if_pos (by omega), if_pos (by omega), if_pos (by omega)]
    by_cases c : dM ρ2 a b ≤ m
    · rw [if_pos c, if_pos (by omega), if_pos (by omega), if_pos (by omega)]
      exact nx_ _ _ (by omega) (by omega)
    · rw [if_neg c, if_pos (by omega), if_pos (by omega), if_pos (by omega)]
      exact nx_ _ _ (by omega) (by omega)
  · rintro ρ2 t ⟨h0, hT2, hK2, hE2⟩
    have e2 : ρ2 51 3 = ρ 51 3 := hK2 51 3 (by omega)
    show G 122 88 (some (.ref 51) :: some (vI (ρ 51 3)) :: t) [] (toM ρ2 τ) Q
    rw [b122_88 ρ2 τ _ t hT2.1 ⟨by omega, by omega⟩, if_pos (by omega)]
    exact H _ _ hT2 hK2 hE2
theorem m_jrow {ρ ρ1 : rm} {n k i : Int} {D : Int → Int → Int} (hn : 2 ≤ n ∧ n ≤ 10) (h1 : ρ 51 0 = n) (hk : 0 ≤ k ∧ k < n) (hi : 0 ≤ i ∧ i < n) (hD : OKD n D) (hT1 : TI ρ1) (hK1 : KD ρ ρ1) (hM : MixD n D k i 0 (dM ρ1)) (t : List (Option Value))
    (H : ∀ ρ' t', TI ρ' → KD ρ ρ' → MixD n D k (i + 1) 0 (dM ρ') → G 122 210 (some (.ref 51) :: some (vI k) :: some (vI (i + 1)) :: t') [] (toM ρ' τ) Q) :
    G 122 210 (some (.ref 51) :: some (vI k) :: some (vI i) :: t) [] (toM ρ1 τ) Q := by
  have e1 : ρ1 51 0 = n := (hK1 51 0 (by omega)).trans h1
  have sk : SM k := ⟨by omega, by omega⟩
  have si : SM i := ⟨by omega, by omega⟩
  rw [b122_210 ρ1 τ k i t hT1.1 sk si, if_neg (by omega)]
  refine lpJ (S := rm) (P := fun j ρ' t => G 122 220 (some (.ref 51) :: some (vI k) :: some (vI i) :: some (vI j) :: t) [] (toM ρ' τ) Q) (inv := fun j ρ' => 0 ≤ j ∧ TI ρ' ∧ KD ρ ρ' ∧ MixD n D k i j (dM ρ')) (n := n) ?_ n.toNat 0 ρ1 _ (by omega) ⟨by omega, hT1, hK1, hM⟩ ?_
  · rintro j ρ2 t h3 ⟨h4, hT2, hK2, hM2⟩ H3
    have e2 : ρ2 51 0 = n := (hK2 51 0 (by omega)).trans h1
    have sj : SM j := ⟨by omega, by omega⟩
    have d1 := dM_bd hT2 i j
    have d2 := dM_bd hT2 i k
    have d3 := dM_bd hT2 k j
    show G 122 220 (some (.ref 51) :: some (vI k) :: some (vI i) :: some (vI j) :: t) [] (toM ρ2 τ) Q
    rw [b122_220 ρ2 τ k i j t hT2.1 sk si sj, if_neg (by omega), if_pos (by omega), if_pos (by omega), if_pos (by omega)]
    have f1 : ρ2 57 (10 * i + j) = dM ρ2 i j := rfl
    have f2 : ρ2 57 (10 * i + k) = dM ρ2 i k := rfl
    have f3 : ρ2 57 (10 * k + j) = dM ρ2 k j := rfl
    rw [f1, f2, f3]
    have nx_ : ∀ x t', (0 ≤ x ∧ x ≤ 100000) → x = min (dM ρ2 i j) (dM ρ2 i k + dM ρ2 k j) → G 122 220 (some (.ref 51) :: some (vI k) :: some (vI i) :: some (vI (j + 1)) :: t') [] (toM (rup ρ2 57 (10 * i + j) x) τ) Q := by
      intro x t' hx ex_
      exact H3 _ _ ⟨by omega, TI_57 hT2 _ hx, hK2.up _ x, mix_step hD hM2 hk hi (by omega) (fun p q hp hq => by rw [dM_up (by omega) (by omega), ex_])⟩
    by_cases c : dM ρ2 i j ≤ dM ρ2 i k + dM ρ2 k j
    · rw [if_pos c, if_pos (by omega), if_pos (by omega)]
      exact nx_ _ _ (by omega) (by omega)
    · rw [if_neg c, if_pos (by omega)]
      exact nx_ _ _ (by omega) (by omega)
  · rintro ρ2 t ⟨h4, hT2, hK2, hM2⟩
    have e2 : ρ2 51 0 = n := (hK2 51 0 (by omega)).trans h1
    show G 122 220 (some (.ref 51) :: some (vI k) :: some (vI i) :: some (vI n) :: t) [] (toM ρ2 τ) Q
    rw [b122_220 ρ2 τ k i n t hT2.1 sk si ⟨by omega, by omega⟩, if_pos (by omega)]
    exact H _ _ hT2 hK2 (mix_row hM2)
theorem m_layFar {ρ : rm} (hT : TI ρ) (hw : ∀ q, 0 ≤ q → q < ρ 51 3 → ρ 54 (3 * q) < ρ 51 0 ∧ ρ 54 (3 * q + 1) < ρ 51 0 ∧ ρ 54 (3 * q) ≠ ρ 54 (3 * q + 1))
    (H : ∀ ρ', TI ρ' → KD ρ ρ' → EqD (ρ 51 0) (dM ρ') (fwA (layN (rdD (ρ 53) 100000) (fun q => ρ 54 (3 * q)) (fun q => ρ 54 (3 * q + 1)) (fun q => ρ 54 (3 * q + 2)) (ρ 51 3).toNat) (ρ 51 0).toNat) → Q none (toM ρ' τ)) : G 122 0 [some (.ref 51)] [] (toM ρ τ) Q := by
  have q1 : 2 ≤ ρ 51 0 ∧ ρ 51 0 ≤ 10 := hT.2 51 0
  have q2 : 0 ≤ ρ 51 3 ∧ ρ 51 3 ≤ 8 := hT.2 51 3
  have hwy : ∀ h, 0 ≤ h → h < ρ 51 0 → 0 ≤ ρ 53 h ∧ ρ 53 h ≤ 99 := fun h _ _ => hT.2 53 h
  have r2 : ∀ q, 0 ≤ ρ 54 (3 * q + 2) ∧ ρ 54 (3 * q + 2) ≤ 99 := fun q => by
    have := hT.2 54 (3 * q + 2)
    rwa [show loB 54 (3 * q + 2) = 0 from rfl, show hiB 54 (3 * q + 2) = if (3 * q + 2) % 3 = 2 then 99 else 9 from rfl, if_pos (by omega)] at this
  have wok : ∀ q, 0 ≤ q → q < ρ 51 3 → (0 ≤ ρ 54 (3 * q) ∧ ρ 54 (3 * q) < ρ 51 0) ∧ (0 ≤ ρ 54 (3 * q + 1) ∧ ρ 54 (3 * q + 1) < ρ 51 0) ∧ ρ 54 (3 * q) ≠ ρ 54 (3 * q + 1) ∧ 0 ≤ ρ 54 (3 * q + 2) := fun q z1 z2 => by
    have a1 := hw q z1 z2
    have a2 := T54a hT q
    have a3 := T54b hT q
    have a4 := r2 q
    omega
  have hD := layN_ok (n := ρ 51 0) (fr := fun q => ρ 54 (3 * q)) (to_ := fun q => ρ 54 (3 * q + 1)) (ov := fun q => ρ 54 (3 * q + 2)) (rdD_ok hwy (far := 100000) (by omega)) (ρ 51 3).toNat (fun q z1 z2 => wok q z1 (by omega))
  refine m_walls hT hw (fun ρ0 t0 hT0 hK0 hE0 => ?_)
  generalize layN (rdD (ρ 53) 100000) (fun q => ρ 54 (3 * q)) (fun q => ρ 54 (3 * q + 1)) (fun q => ρ 54 (3 * q + 2)) (ρ 51 3).toNat = D at hE0 hD H
  refine lpJ (S := rm) (P := fun k ρ' t => G 122 200 (some (.ref 51) :: some (vI k) :: t) [] (toM ρ' τ) Q) (inv := fun k ρ' => 0 ≤ k ∧ TI ρ' ∧ KD ρ ρ' ∧ EqD (ρ 51 0) (dM ρ') (fwA D k.toNat)) (n := ρ 51 0) ?_ (ρ 51 0).toNat 0 ρ0 t0 (by omega) ⟨by omega, hT0, hK0, hE0⟩ ?_
  · rintro k ρ1 t h1 ⟨h0, hT1, hK1, hE1⟩ H2
    have e1 : ρ1 51 0 = ρ 51 0 := hK1 51 0 (by omega)
    have hok := fwA_ok hD k.toNat (by omega)
    show G 122 200 (some (.ref 51) :: some (vI k) :: t) [] (toM ρ1 τ) Q
    rw [b122_200 ρ1 τ k t hT1.1 ⟨by omega, by omega⟩, if_neg (by omega)]
    refine lpJ (S := rm) (P := fun i ρ' t => G 122 210 (some (.ref 51) :: some (vI k) :: some (vI i) :: t) [] (toM ρ' τ) Q) (inv := fun i ρ' => 0 ≤ i ∧ TI ρ' ∧ KD ρ ρ' ∧ MixD (ρ 51 0) (fwA D k.toNat) k i 0 (dM ρ')) (n := ρ 51 0) ?_ (ρ 51 0).toNat 0 ρ1 _ (by omega) ⟨by omega, hT1, hK1, mix_0 hE1⟩ ?_
    · rintro i ρ2 t h3 ⟨h4, hT2, hK2, hM2⟩ H3
      exact m_jrow q1 rfl ⟨h0, h1⟩ ⟨h4, h3⟩ hok hT2 hK2 hM2 t (fun ρ' t' z1 z2 z3 => H3 _ _ ⟨by omega, z1, z2, z3⟩)
    · rintro ρ2 t ⟨h4, hT2, hK2, hM2⟩
      have e2 : ρ2 51 0 = ρ 51 0 := hK2 51 0 (by omega)
      show G 122 210 (some (.ref 51) :: some (vI k) :: some (vI (ρ 51 0)) :: t) [] (toM ρ2 τ) Q
      rw [b122_210 ρ2 τ k _ t hT2.1 ⟨by omega, by omega⟩ ⟨by omega, by omega⟩, if_pos (by omega)]
      refine H2 _ _ ⟨by omega, hT2, hK2, fun p q hp hq => ?_⟩
      rw [mix_n hM2 p q hp hq, show (k + 1).toNat = k.toNat + 1 by omega]
      show fwS (fwA D k.toNat) k p q = fwS (fwA D k.toNat) (k.toNat : Int) p q
      rw [Int.toNat_of_nonneg h0]
  · rintro ρ1 t ⟨h0, hT1, hK1, hE1⟩
    have e1 : ρ1 51 0 = ρ 51 0 := hK1 51 0 (by omega)
    show G 122 200 (some (.ref 51) :: some (vI (ρ 51 0)) :: t) [] (toM ρ1 τ) Q
    rw [b122_200 ρ1 τ _ t hT1.1 ⟨by omega, by omega⟩, if_pos (by omega)]
    exact H _ hT1 hK1 hE1
end ML
