/-! wrong -/
def okp (x : Int) (β ε : Int → Int) (a b : Int) : Prop := bt x a.toNat = true ∨ bt x b.toNat = true ∨ β a ≠ β b ∨ ε a = ε b
section WW
variable {Q : Option Value → mm → Prop} {τ : Int64} {ρ : rm}
theorem m_cbr (hT : TI ρ) {x : Int} (hx : 0 ≤ x ∧ x < 1024) (H1 : vld (ρ 51 0) (ρ 66) (ρ 67) x → Q (some (vI 1)) (toM ρ τ)) (H0 : ¬ vld (ρ 51 0) (ρ 66) (ρ 67) x → Q (some (vI 0)) (toM ρ τ)) : G 169 0 [some (.ref 51), some (vI x)] [] (toM ρ τ) Q := by
  have hn : 2 ≤ ρ 51 0 ∧ ρ 51 0 ≤ 10 := hT.2 51 0
  have sx : SM x := ⟨by omega, by omega⟩
  rw [b169_0 ρ τ x hT.1 sx]
  refine lpJ (S := Int) (P := fun a l t => G 169 4 (some (.ref 51) :: some (vI x) :: some (vI l) :: some (vI a) :: t) [] (toM ρ τ) Q) (inv := fun a l => 0 ≤ a ∧ (l = 0 ∨ l = 1) ∧ (l = 1 ↔ ∀ a' b', 0 ≤ b' → b' < a' → a' < a → okp x (ρ 66) (ρ 67) a' b')) (n := ρ 51 0) ?_ (ρ 51 0).toNat 0 1 [] (by omega) ⟨by omega, Or.inr rfl, fun _ a' b' z1 z2 z3 => by omega, fun _ => rfl⟩ ?_
  · rintro a l t h1 ⟨h0, hl, hi⟩ H2
    have sa : SM a := ⟨by omega, by omega⟩
    show G 169 4 (some (.ref 51) :: some (vI x) :: some (vI l) :: some (vI a) :: t) [] (toM ρ τ) Q
    rw [b169_4 ρ τ x l a t hT.1 sx ⟨by omega, by omega⟩ sa hl, if_neg (by omega)]
    refine lpJ (S := Int) (P := fun b l t => G 169 15 (some (.ref 51) :: some (vI x) :: some (vI l) :: some (vI a) :: some (vI b) :: t) [] (toM ρ τ) Q) (inv := fun b l => 0 ≤ b ∧ (l = 0 ∨ l = 1) ∧ (l = 1 ↔ (∀ a' b', 0 ≤ b' → b' < a' → a' < a → okp x (ρ 66) (ρ 67) a' b') ∧ ∀ b', 0 ≤ b' → b' < b → okp x (ρ 66) (ρ 67) a b')) (n := a) ?_ a.toNat 0 l _ (by omega) ⟨by omega, hl, hi.trans ⟨fun z => ⟨z, fun b' z1 z2 => by omega⟩, fun z => z.1⟩⟩ ?_
    · rintro b l t z1 ⟨z0, hl, hi⟩ H3
      have sb : SM b := ⟨by omega, by omega⟩
      have slv : SM l := ⟨by omega, by omega⟩
      have b1 := bi_01 x a
      have b2 := bi_01 x b
      have to1 : ∀ t', l = 1 → okp x (ρ 66) (ρ 67) a b → G 169 15 (some (.ref 51) :: some (vI x) :: some (vI 1) :: some (vI a) :: some (vI (b + 1)) :: t') [] (toM ρ τ) Q := fun t' y1 y2 => by
        refine H3 1 t' ⟨by omega, Or.inr rfl, fun _ => ?_, fun _ => rfl⟩
        obtain ⟨i1, i2⟩ := hi.mp y1
        refine ⟨i1, fun b' w1 w2 => ?_⟩
        by_cases c : b' = b
        · rw [c]; exact y2
        · exact i2 b' w1 (by omega)
      show G 169 15 (some (.ref 51) :: some (vI x) :: some (vI l) :: some (vI a) :: some (vI b) :: t) [] (toM ρ τ) Q
      rw [b169_15 ρ τ x l a b t hT.1 sx slv sa sb, if_neg (by omega)]
      by_cases c0 : l = 0
      · rw [if_pos c0]
        refine H3 0 _ ⟨by omega, Or.inl rfl, fun z => by omega, fun z => ?_⟩
        have := hi.mpr ⟨z.1, fun b' w1 w2 => z.2 b' w1 (by omega)⟩
        omega
      · have l1 : l = 1 := by omega
        rw [if_neg c0, m_has hT.1 hx (by omega), b169_30 ρ τ x l a b t _ hT.1 sx slv sa sb ⟨by omega, by omega⟩]
        by_cases c1 : bi x a = 0
        · rw [if_pos c1, m_has hT.1 hx (by omega), b169_39 ρ τ x l a b t _ hT.1 sx slv sa sb ⟨by omega, by omega⟩]
          by_cases c2 : bi x b = 0
          · rw [if_pos c2, if_pos (by omega), if_pos (by omega)]
            by_cases c3 : ρ 66 a = ρ 66 b
            · rw [if_pos c3, if_pos (by omega), if_pos (by omega)]
              by_cases c4 : ρ 67 a = ρ 67 b
              · rw [if_pos c4]
                exact to1 _ l1 (Or.inr (Or.inr (Or.inr c4)))
              · rw [if_neg c4]
                refine H3 0 _ ⟨by omega, Or.inl rfl, fun z => by omega, fun z => ?_⟩
                exfalso
                rcases z.2 b z0 (by omega) with y | y | y | y
                · rw [← bi_1] at y; omega
                · rw [← bi_1] at y; omega
                · exact y c3
                · exact c4 y
            · rw [if_neg c3]
              exact to1 _ l1 (Or.inr (Or.inr (Or.inl c3)))
          · rw [if_neg c2]
            exact to1 _ l1 (Or.inr (Or.inl ((bi_1 x b).mp (by omega))))
        · rw [if_neg c1]
          exact to1 _ l1 (Or.inl ((bi_1 x a).mp (by omega)))
    · rintro l t ⟨z0, hl, hi⟩
      show G 169 15 (some (.ref 51) :: some (vI x) :: some (vI l) :: some (vI a) :: some (vI a) :: t) [] (toM ρ τ) Q
      rw [b169_15 ρ τ x l a a t hT.1 sx ⟨by omega, by omega⟩ sa sa, if_pos (by omega)]
      refine H2 l _ ⟨by omega, hl, hi.trans ⟨fun z a' b' w1 w2 w3 => ?_, fun z => ⟨fun a' b' w1 w2 w3 => z a' b' w1 w2 (by omega), fun b' w1 w2 => z a b' w1 w2 (by omega)⟩⟩⟩
      by_cases c : a' = a
      · rw [c] at w2 ⊢; exact z.2 b' w1 w2
      · exact z.1 a' b' w1 w2 (by omega)
  · rintro l t ⟨h0, hl, hi⟩
    show G 169 4 (some (.ref 51) :: some (vI x) :: some (vI l) :: some (vI (ρ 51 0)) :: t) [] (toM ρ τ) Q
    rw [b169_4 ρ τ x l _ t hT.1 sx ⟨by omega, by omega⟩ ⟨by omega, by omega⟩ hl, if_pos (by omega)]
    have eqv : (∀ a' b', 0 ≤ b' → b' < a' → a' < ρ 51 0 → okp x (ρ 66) (ρ 67) a' b') ↔ vld (ρ 51 0) (ρ 66) (ρ 67) x := by
      constructor
      · intro z a b ha hb hab
        by_cases c : b < a
        · exact z a b hb.1 c ha.2
        · rcases z b a ha.1 (by omega) hb.2 with y | y | y | y
          · exact Or.inr (Or.inl y)
          · exact Or.inl y
          · exact Or.inr (Or.inr (Or.inl (fun w => y w.symm)))
          · exact Or.inr (Or.inr (Or.inr y.symm))
      · intro z a b w1 w2 w3
        exact z a b ⟨by omega, w3⟩ ⟨w1, by omega⟩ (by omega)
    rw [eqv] at hi
    rcases hl with y | y
    · rw [y]
      exact H0 (fun z => by have := hi.mpr z; omega)
    · rw [y]
      exact H1 (hi.mp y)
theorem m_best (hT : TI ρ) {w : Int} (hw : 0 ≤ w ∧ w ≤ 1) (H : ∀ b t', (0 ≤ b ∧ b < bsh (ρ 51 0)) → vld (ρ 51 0) (ρ 66) (ρ 67) b → (∀ S, 0 ≤ S → S < bsh (ρ 51 0) → vld (ρ 51 0) (ρ 66) (ρ 67) S → wtS b ≤ wtS S) → G 171 34 (some (.ref 51) :: some (vI w) :: some (vI b) :: some (vI (-1)) :: t') [] (toM ρ τ) Q) :
    ∀ (d : Nat) (b : Int) (t : List (Option Value)), (d : Int) ≤ b → b < bsh (ρ 51 0) → vld (ρ 51 0) (ρ 66) (ρ 67) b → (∀ S, (d : Int) ≤ S → S < bsh (ρ 51 0) → vld (ρ 51 0) (ρ 66) (ρ 67) S → wtS b ≤ wtS S) → G 171 34 (some (.ref 51) :: some (vI w) :: some (vI b) :: some (vI ((d : Int) - 1)) :: t) [] (toM ρ τ) Q := by
  have hn : 2 ≤ ρ 51 0 ∧ ρ 51 0 ≤ 10 := hT.2 51 0
  have fl := (full_eq hn (k := 0) (by omega)).1
  have sw : SM w := ⟨by omega, by omega⟩
  intro d
  induction d with
  | zero =>
    intro b t h1 h2 h3 h4
    exact H b t ⟨by omega, h2⟩ h3 (fun S z1 z2 z3 => h4 S (by omega) z2 z3)
  | succ d ih =>
    intro b t h1 h2 h3 h4
    have sb : SM b := ⟨by omega, by omega⟩
    have sd_ : SM (d : Int) := ⟨by omega, by omega⟩
    have p1 := pc_bd (d : Int)
    have p2 := pc_bd b
    have w1 := wt_eq (x := (d : Int)) (by omega)
    have w2 := wt_eq (x := b) (by omega)
    rw [show ((d + 1 : Nat) : Int) - 1 = (d : Int) by omega, b171_34 ρ τ w b (d : Int) t hT.1 sw sb sd_, if_neg (by omega), m_bits hT.1 (by omega), b171_42 ρ τ w b (d : Int) t _ hT.1 sw sb sd_ ⟨by omega, by omega⟩, m_bits hT.1 (by omega), b171_46 ρ τ w b (d : Int) t _ _ hT.1 sw sb sd_ ⟨by omega, by omega⟩ ⟨by omega, by omega⟩, show (d : Int) + (-1) = (d : Int) - 1 by omega]
    have keep : ∀ t', (vld (ρ 51 0) (ρ 66) (ρ 67) (d : Int) → wtS b ≤ wtS (d : Int)) → G 171 34 (some (.ref 51) :: some (vI w) :: some (vI b) :: some (vI ((d : Int) - 1)) :: t') [] (toM ρ τ) Q := fun t' z => ih b t' (by omega) h2 h3 (fun S z1 z2 z3 => by
      by_cases c : S = (d : Int)
      · rw [c] at z3 ⊢; exact z z3
      · exact h4 S (by omega) z2 z3)
    by_cases c : pc b < pc (d : Int)
    · rw [if_pos c]
      exact keep _ (fun _ => by omega)
    · rw [if_neg c]
      refine m_cbr hT (by omega) (fun z => ?_) (fun z => ?_)
      · show G 171 54 (some (.ref 51) :: some (vI w) :: some (vI b) :: some (vI (d : Int)) :: t) ((some (vI 1)).toList ++ []) (toM ρ τ) Q
        rw [b171_54 ρ τ w b (d : Int) t 1 hT.1 sw sb sd_ (by decide), if_neg (by decide), show (d : Int) + (-1) = (d : Int) - 1 by omega]
        refine ih (d : Int) _ (by omega) (by omega) z (fun S z1 z2 z3 => ?_)
        by_cases c : S = (d : Int)
        · rw [c]; exact Int.le_refl _
        · have := h4 S (by omega) z2 z3
          omega
      · show G 171 54 (some (.ref 51) :: some (vI w) :: some (vI b) :: some (vI (d : Int)) :: t) ((some (vI 0)).toList ++ []) (toM ρ τ) Q
        rw [b171_54 ρ τ w b (d : Int) t 0 hT.1 sw sb sd_ (by decide), if_pos rfl, show (d : Int) + (-1) = (d : Int) - 1 by omega]
        exact keep _ (fun y => absurd y z)
/-- the reference, when the bells can all be -/
theorem m_wfin (hT : TI ρ) {w : Int} (hw : 0 ≤ w ∧ w ≤ 1) {W : Int} (hW : 0 ≤ W ∧ W < bsh (ρ 51 0)) (hv : vld (ρ 51 0) (ρ 66) (ρ 67) W) (hm : ∀ S, 0 ≤ S → S < bsh (ρ 51 0) → vld (ρ 51 0) (ρ 66) (ρ 67) S → wtS W ≤ wtS S) (t : List (Option Value))
    (H : Q (some (vI (if w = 0 then pc W else W))) (toM ρ τ)) : G 171 16 (some (.ref 51) :: some (vI w) :: t) ((some (vI 1)).toList ++ []) (toM ρ τ) Q := by
  have hn : 2 ≤ ρ 51 0 ∧ ρ 51 0 ≤ 10 := hT.2 51 0
  have fl := full_eq hn (k := 0) (by omega)
  have sw : SM w := ⟨by omega, by omega⟩
  rw [b171_16 ρ τ w t 1 hT.1 sw (by decide), if_neg (by decide)]
  have e : (iI 1 <<< (iI (ρ 51 0) &&& 31)).toInt = bsh (ρ 51 0) := rfl
  rw [e]
  have fv : vld (ρ 51 0) (ρ 66) (ρ 67) (bsh (ρ 51 0) - 1) := fun a b ha hb _ => Or.inl (by rw [(full_eq hn (k := a) (by omega)).2.1]; exact decide_eq_true ha.2)
  have R := m_best (τ := τ) (Q := Q) hT hw (fun b t' hb hbv hbm => by
    have eb : b = W := by
      have l1 := hbm W hW.1 hW.2 hv
      have l2 := hm b hb.1 hb.2 hbv
      exact wt_inj (by omega) (by omega) (by omega)
    have p := pc_bd W
    rw [eb, b171_34 ρ τ w W (-1) t' hT.1 sw ⟨by omega, by omega⟩ (by decide), if_pos (by decide)]
    by_cases c : w = 0
    · rw [if_pos c] at H ⊢
      rw [m_bits hT.1 (by omega), b171_77 ρ τ w W (-1) t' _ hT.1 sw ⟨by omega, by omega⟩ (by decide) ⟨by omega, by omega⟩]
      exact H
    · rw [if_neg c] at H ⊢
      exact H) (bsh (ρ 51 0) - 1).toNat (bsh (ρ 51 0) - 1) t.tail.tail (by omega) (by omega) fv (fun S z1 z2 z3 => by
    have : S = bsh (ρ 51 0) - 1 := by omega
    rw [this]; exact Int.le_refl _)
  rw [show (((bsh (ρ 51 0) - 1).toNat : Nat) : Int) - 1 = bsh (ρ 51 0) - 1 - 1 by omega] at R
  exact R
end WW
theorem ag_wrong (a : Int) (ha : SB a) : Agree 105 171 [some (vI a)] := by
  intro ρ τ h
  have hT := h.1
  have hn := h.nb
  have n1 := h.n
  rw [b105_0 ρ τ a hT.1 ha]
  by_cases c0 : 0 ≤ a ∧ a ≤ 1
  · rw [if_neg (by omega), if_pos (by omega)]
    have sa : SM a := ⟨by omega, by omega⟩
    obtain ⟨e8, hb⟩ := h.B
    have em : ρ 8 0 = ρ 51 30 := e8
    have hBk : ∀ k, 0 ≤ k → k < ρ 8 0 → ρ 43 k = ρ 63 (4 * k) ∧ ρ 44 k = ρ 63 (4 * k + 2) ∧ ρ 45 k = mP ρ k ∧ (0 ≤ ρ 63 (4 * k) ∧ ρ 63 (4 * k) < ρ 51 0) ∧ (0 ≤ ρ 63 (4 * k + 2) ∧ ρ 63 (4 * k + 2) < ρ 51 0) := fun k k1 k2 => by
      have q := hb k k1 (by omega)
      have q2 := T63a hT k
      have q3 := T63b hT k
      exact ⟨q.1, q.2.1, q.2.2.2.2.2, ⟨q2.1, q.2.2.1⟩, ⟨q3.1, q.2.2.2.1⟩⟩
    have hB : Bok ρ := fun k k1 k2 => by
      obtain ⟨q1, q2, q3, q4, q5⟩ := hBk k k1 k2
      rw [q1, q2, n1]
      exact ⟨q4, q5⟩
    have same : ∀ ρ2, GM ρ (-2) ρ2 → Same ρ ρ2 := fun ρ2 hG k j hk => hG.2.1 k j (fun z => hk (by unfold scr; omega))
    have sameM : ∀ ρ2 ρ3 : rm, (∀ a j, ¬ (a = 66 ∨ a = 67) → ρ3 a j = ρ2 a j) → Same ρ2 ρ3 := fun ρ2 ρ3 hF k j hk => hF k j (fun z => hk (by unfold scr; omega))
    -- the reference, from there
    have go : ∀ ρ2 : rm, GM ρ (-2) ρ2 → (∀ x, 0 ≤ x → x < ρ 1 1 → ρ2 46 x ≠ -1) → ∀ r : Int,
        (¬ CON ρ ρ2 → r = -1) → (CON ρ ρ2 → ∃ R W, WR (ρ 1 1) (ρ2 46) (ρ2 47) R W ∧ r = if a = 0 then pc W else W) →
        G 171 0 [some (.ref 51), some (vI a)] [] (toM ρ2 τ) (fun v' μ' => v' = some (vI r) ∧ ∃ ρ3 τ3, μ' = toM ρ3 τ3 ∧ RR ρ3) := by
      intro ρ2 hG ht r hno hyes
      have hR2 := RR_same h hG.1 (same ρ2 hG)
      have hT2 := hG.1
      have e63 : ρ2 63 = ρ 63 := funext fun j => hG.2.1 63 j (by omega)
      have e52 : ρ2 52 = ρ 52 := funext fun j => hG.2.1 52 j (by omega)
      have e0 : ρ2 51 0 = ρ 51 0 := hG.2.1 51 0 (by omega)
      have e30 : ρ2 51 30 = ρ 51 30 := hG.2.1 51 30 (by omega)
      have eP : mP ρ2 = mP ρ := funext fun k => by unfold mP oS; rw [e63, e52]
      obtain ⟨g1, g2, g3, g4, g5⟩ := hG.2.2
      rw [b171_0 ρ2 τ a hT2.1 ha, m_in hT2.1 ha (by decide) (by decide), tv_t (by omega), b171_6 ρ2 τ a [] 1 hT2.1 ha (Or.inr sa) (by decide), if_neg (by decide)]
      refine m_layB hR2 (fun ρ3 cn hT3 hF3 hM => ?_)
      rw [e0, e30, e63, eP] at hM
      have hR3 := RR_same hR2 hT3 (sameM ρ2 ρ3 hF3)
      have e03 : ρ3 51 0 = ρ 51 0 := (hF3 51 0 (by omega)).trans e0
      obtain ⟨m1, m2, m3, m4, m5, m6⟩ := hM
      show G 171 16 (some (.ref 51) :: some (vI a) :: []) ((some (vI cn)).toList ++ []) (toM ρ3 τ) _
      -- the bells' sides are the same
      have clo : ∀ k, 0 ≤ k → k < ρ 51 30 → ρ2 46 (ρ 63 (4 * k)) = ρ2 46 (ρ 63 (4 * k + 2)) := fun k k1 k2 => by
        obtain ⟨q1, q2, q3, q4, q5⟩ := hBk k k1 (by omega)
        have y := g2 k k1 (by omega)
        rw [q1, q2] at y
        have w1 := ht _ q4.1 (by omega)
        have w2 := g1 _ q4.1 (by omega)
        exact (y.1 w1 (by omega)).symm
      have potC : ∀ φ : Int → Int, (∀ k, 0 ≤ k → k < ρ 51 30 → (φ (ρ 63 (4 * k)) - mP ρ k - φ (ρ 63 (4 * k + 2))) % 1440 = 0) → ∀ k, 0 ≤ k → k < ρ 8 0 → (φ (ρ 43 k) - ρ 45 k - φ (ρ 44 k)) % 1440 = 0 := fun φ hφ k k1 k2 => by
        obtain ⟨q1, q2, q3, q4, q5⟩ := hBk k k1 k2
        rw [q1, q2, q3]
        exact hφ k k1 (by omega)
      by_cases hcon : CON ρ ρ2
      · have cn1 : cn = 1 := (m5 (ρ2 47) (fun k k1 k2 => by
          obtain ⟨q1, q2, q3, q4, q5⟩ := hBk k k1 (by omega)
          have y := hcon k k1 (by omega)
          rw [q1, q2, q3] at y
          show (ρ2 47 (ρ 63 (4 * k)) - mP ρ k - ρ2 47 (ρ 63 (4 * k + 2))) % 1440 = 0
          omega)).1
        obtain ⟨R, W, hWR, hr⟩ := hyes hcon
        have hε := m4 cn1
        have gg := g4 (ρ3 67) (potC _ hε)
        have lbl : ∀ x, 0 ≤ x → x < ρ 1 1 → (0 ≤ ρ2 46 x ∧ ρ2 46 x < ρ 1 1) ∧ ρ2 46 (ρ2 46 x) = ρ2 46 x := fun x z1 z2 => (g1 x z1 z2).resolve_left (ht x z1 z2)
        have grp : ∀ x y, (0 ≤ x ∧ x < ρ 51 0) → (0 ≤ y ∧ y < ρ 51 0) → (ρ2 46 x = ρ2 46 y ↔ ρ3 66 x = ρ3 66 y) := fun x y hx hy => by
          constructor
          · intro z
            have a1 := g3 (ρ3 66) (fun k k1 k2 => by
              obtain ⟨q1, q2, q3, q4, q5⟩ := hBk k k1 k2
              rw [q1, q2]; exact m2 k k1 (by omega)) x hx.1 (by omega) (ht x hx.1 (by omega))
            have a2 := g3 (ρ3 66) (fun k k1 k2 => by
              obtain ⟨q1, q2, q3, q4, q5⟩ := hBk k k1 k2
              rw [q1, q2]; exact m2 k k1 (by omega)) y hy.1 (by omega) (ht y hy.1 (by omega))
            rw [a1, a2, z]
          · intro z
            rw [m3 (ρ2 46) clo x hx.1 hx.2, m3 (ρ2 46) clo y hy.1 hy.2, z]
        have al : ∀ x y, (0 ≤ x ∧ x < ρ 51 0) → (0 ≤ y ∧ y < ρ 51 0) → ρ2 46 x = ρ2 46 y → (ρ2 47 x = ρ2 47 y ↔ ρ3 67 x = ρ3 67 y) := fun x y hx hy z => by
          have a1 := gg x hx.1 (by omega) (ht x hx.1 (by omega))
          have a2 := gg y hy.1 (by omega) (ht y hy.1 (by omega))
          have b1 := g5 x hx.1 (by omega) (ht x hx.1 (by omega))
          have b2 := g5 y hy.1 (by omega) (ht y hy.1 (by omega))
          have c1 := (m1 x hx.1 hx.2).2.2
          have c2 := (m1 y hy.1 hy.2).2.2
          rw [z] at a1
          omega
        have vv : ∀ S, vld (ρ 51 0) (ρ2 46) (ρ2 47) S ↔ vld (ρ 51 0) (ρ3 66) (ρ3 67) S := fun S => by
          constructor
          · intro z x y hx hy hxy
            rcases z x y hx hy hxy with w | w | w | w
            · exact Or.inl w
            · exact Or.inr (Or.inl w)
            · exact Or.inr (Or.inr (Or.inl (fun q => w ((grp x y hx hy).mpr q))))
            · by_cases c : ρ2 46 x = ρ2 46 y
              · exact Or.inr (Or.inr (Or.inr ((al x y hx hy c).mp w)))
              · exact Or.inr (Or.inr (Or.inl (fun q => c ((grp x y hx hy).mpr q))))
          · intro z x y hx hy hxy
            rcases z x y hx hy hxy with w | w | w | w
            · exact Or.inl w
            · exact Or.inr (Or.inl w)
            · exact Or.inr (Or.inr (Or.inl (fun q => w ((grp x y hx hy).mp q))))
            · by_cases c : ρ2 46 x = ρ2 46 y
              · exact Or.inr (Or.inr (Or.inr ((al x y hx hy c).mpr w)))
              · exact Or.inr (Or.inr (Or.inl c))
        rw [n1] at hWR lbl
        have fl := full_eq hn (k := 0) (by omega)
        have wv := w_valid hn lbl hWR
        have wlt : 0 ≤ W ∧ W < bsh (ρ 51 0) := by
          rw [fl.2.2]
          refine bt_rg ⟨by have := hWR.1; omega, by have := hWR.1; omega⟩ (n := (ρ 51 0).toNat) (by omega) (fun k k1 k2 => ?_)
          by_cases c : k < 10
          · cases hbk : bt W k with
            | false => rfl
            | true =>
              have := (hWR.2.1 (k : Int) (by omega) (by omega)).mp (by rw [Int.toNat_natCast]; exact hbk)
              omega
          · exact bt32 hWR.1 (by omega)
        have wm : ∀ S, 0 ≤ S → S < bsh (ρ 51 0) → vld (ρ 51 0) (ρ3 66) (ρ3 67) S → wtS W ≤ wtS S := fun S z1 z2 z3 => by
          refine w_min hn lbl hWR ((vv S).mpr z3) (fun x x1 x2 x3 => ?_)
          rw [fl.2.2] at z2
          exact bt_up (n := (ρ 51 0).toNat) (by omega) ⟨z1, z2⟩ _ (by omega)
        rw [cn1]
        rw [← e03] at wlt wm
        have wv' := (vv W).mp wv
        rw [← e03] at wv'
        refine m_wfin hT3 c0 wlt wv' wm [] ?_
        rw [hr]
        exact ⟨rfl, ρ3, τ, rfl, hR3⟩
      · have cn0 : cn = 0 := by
          rcases m6 with y | y
          · exact y
          · exfalso
            refine hcon (fun k k1 k2 => ?_)
            obtain ⟨q1, q2, q3, q4, q5⟩ := hBk k k1 k2
            have hε := m4 y
            have gg := g4 (ρ3 67) (potC _ hε)
            have a1 := gg (ρ 63 (4 * k)) q4.1 (by omega) (ht _ q4.1 (by omega))
            have a2 := gg (ρ 63 (4 * k + 2)) q5.1 (by omega) (ht _ q5.1 (by omega))
            rw [clo k k1 (by omega)] at a1
            have a3 := hε k k1 (by omega)
            dsimp only at a3
            rw [q1, q2, q3]
            have pr : 0 ≤ mP ρ k ∧ mP ρ k < 1440 := by unfold mP; omega
            omega
        rw [cn0, b171_16 ρ3 τ a [] 0 hT3.1 sa (by decide), if_pos rfl, hno hcon]
        exact ⟨rfl, ρ3, τ, rfl, hR3⟩
    refine c_wrong hT hB (fun ρ2 hG ht hc => ?_) (fun ρ2 R W hG ht hc hWR => ?_)
    · show G 105 19 (some (.ref 0) :: some (vI a) :: []) ((some (vI (-1))).toList ++ []) (toM ρ2 τ) _
      have g := go ρ2 hG ht (-1) (fun _ => rfl) (fun z => absurd z hc)
      rw [b105_19 ρ2 τ a [] (-1) hG.1.1 ha (by decide)]
      split
      · rw [if_pos rfl]
        exact ⟨-1, by decide, rfl, g⟩
      · exact ⟨-1, by decide, rfl, g⟩
    · have w1 := hWR.1
      have p := pc_bd W
      show G 105 19 (some (.ref 0) :: some (vI a) :: []) ((some (vI W)).toList ++ []) (toM ρ2 τ) _
      have g := go ρ2 hG ht (if a = 0 then pc W else W) (fun z => absurd hc z) (fun _ => ⟨R, W, hWR, rfl⟩)
      rw [b105_19 ρ2 τ a [] W hG.1.1 ha ⟨by omega, by omega⟩]
      by_cases c : a = 0
      · rw [if_pos c] at g ⊢
        rw [if_neg (by omega), c_bc hG.1.1 w1, b105_33 ρ2 τ a W _ _ hG.1.1 ha ⟨by omega, by omega⟩ ⟨by omega, by omega⟩]
        exact ⟨_, ⟨by omega, by omega⟩, rfl, g⟩
      · rw [if_neg c] at g ⊢
        exact ⟨_, ⟨by omega, by omega⟩, rfl, g⟩
  · have e : ∀ Q, G 171 0 [some (.ref 51), some (vI a)] [] (toM ρ τ) Q = Q (some (vI (-3))) (toM ρ τ) := fun Q => by
      rw [b171_0 ρ τ a hT.1 ha, m_in hT.1 ha (by decide) (by decide), tv_f (by omega), b171_6 ρ τ a [] 0 hT.1 ha (Or.inl rfl) (by decide), if_pos rfl]
    (repeat' split) <;> first | (exfalso; omega) | (refine ⟨_, by decide, rfl, ?_⟩; rw [e]; exact ag_end rfl h)
