/-! all lines: both sides; fault -/
def KA (l : Int) (ρ ρ' : rm) : Prop := ∀ a j, ¬ a = 5 → ¬ (a = 38 ∧ l ≤ j) → ¬ (a = 39 ∧ 5 * l ≤ j) → ρ' a j = ρ a j
def HC (ρ : rm) : Int → List (Int × (Int → Int)) → Prop
  | _, [] => True
  | l, (k, N) :: t => (ρ 38 l = k ∧ ∀ j, 0 ≤ j → j < nOf k → ρ 39 (5 * l + j) = N j) ∧ HC ρ (l + 1) t
def KB (l : Int) (ρ ρ' : rm) : Prop := ∀ a j, ¬ (a = 51 ∧ 12 ≤ j ∧ j ≤ 22) → ¬ (a = 59 ∧ 6 * l ≤ j) → ρ' a j = ρ a j
def HM (ρ : rm) : Int → List (Int × (Int → Int)) → Prop
  | _, [] => True
  | l, (k, N) :: t => (ρ 59 (6 * l) = k - 1 ∧ ∀ j, 0 ≤ j → j < nOf k → ρ 59 (6 * l + 1 + j) = N j) ∧ HM ρ (l + 1) t
section AL
variable {Q : Option Value → mm → Prop}
theorem c_rdA {τ : Int64} {a1 a2 a3 a4 : Int} (h1 : SM a1) (h2 : SM a2) (h3 : SM a3) (h4 : SM a4) : ∀ (f : Nat) (l h w d s : Int) (ρ : rm) (t : List (Option Value)), TI ρ → (0 ≤ ρ 5 4 ∧ ρ 5 4 ≤ ρ 4 1) → 0 ≤ l → l + f = 10 → ρ 5 0 = l → (f = 0 → ρ 5 6 = ρ 5 4 - 1) → (ρ 5 8 = h ∧ ρ 5 9 = w ∧ ρ 5 10 = d ∧ ρ 5 11 = s) →
    (∀ x, rdA (ρ 37) (ρ 4 1) f h w d s (ρ 5 4) = .inl x → 0 ≤ x ∧ x ≤ 200 → ∀ ρ', TI ρ' → KA l ρ ρ' → Q (some (vI x)) (toM ρ' τ)) →
    (∀ L, rdA (ρ 37) (ρ 4 1) f h w d s (ρ 5 4) = .inr L → ∀ ρ', TI ρ' → KA l ρ ρ' → ρ' 5 0 = l + (L.length : Int) → HC ρ' l L → Q (some (vI (-1))) (toM ρ' τ)) →
    G 43 31 (some (.ref 5) :: some (vI a1) :: some (vI a2) :: some (vI a3) :: some (vI a4) :: t) [] (toM ρ τ) Q := by
  intro f
  induction f with
  | zero =>
    intro l h w d s ρ t hT hp hl hf hl0 h6 hst Hf Hs
    have r6 : 0 ≤ ρ 5 6 ∧ ρ 5 6 ≤ 200 := hT.2 5 6
    rw [b43_31 ρ τ a1 a2 a3 a4 t hT.1 h1 h2 h3 h4, if_pos (by omega), h6 rfl]
    exact Hf _ rfl (by have := h6 rfl; omega) ρ hT (fun _ _ _ _ _ => rfl)
  | succ f ih =>
    intro l h w d s ρ t hT hp hl hf hl0 h6 hst Hf Hs
    rw [b43_31 ρ τ a1 a2 a3 a4 t hT.1 h1 h2 h3 h4, if_neg (by omega), hl0, show l * 5 = 5 * l by omega]
    refine c_line (l := l) ⟨by omega, by omega⟩ hT hp hl0 hst (fun x e ρ' t1 t2 t3 => ?_) (fun k p' N e ρ1 t1 t2 t3 t4 t5 t6 t7 t8 t9 => ?_)
    · have r6 : 0 ≤ ρ' 5 6 ∧ ρ' 5 6 ≤ 200 := t1.2 5 6
      show G 43 50 (some (.ref 5) :: some (vI a1) :: some (vI a2) :: some (vI a3) :: some (vI a4) :: t) ((some (vI 0)).toList ++ []) (toM ρ' τ) Q
      rw [b43_50 ρ' τ a1 a2 a3 a4 t 0 t1.1 h1 h2 h3 h4 (by decide), if_pos rfl, t3]
      exact Hf x (rdA_1 e) (by omega) ρ' t1 (fun a j x y z => t2.1 a j x (fun q => y ⟨q.1, by omega⟩) (fun q => z ⟨q.1, by omega⟩))
    · have ok := rdL_ok hp.2 e
      have m0 : ρ1 5 0 = l := t2.2.trans hl0
      have m37 : ρ1 37 = ρ 37 := funext fun j => t2.1 37 j (by decide) (by omega) (by omega)
      have m41 : ρ1 4 1 = ρ 4 1 := t2.1 4 1 (by decide) (by omega) (by omega)
      show G 43 50 (some (.ref 5) :: some (vI a1) :: some (vI a2) :: some (vI a3) :: some (vI a4) :: t) ((some (vI 1)).toList ++ []) (toM ρ1 τ) Q
      rw [b43_50 ρ1 τ a1 a2 a3 a4 t 1 t1.1 h1 h2 h3 h4 (by decide), if_neg (by decide), m0]
      have hT2 := TI_up t1 5 0 (x := l + 1) (show 0 ≤ l + 1 ∧ l + 1 ≤ 10 by omega) (by omega)
      have g4 : rup ρ1 5 0 (l + 1) 5 4 = p' := by rw [rup5 (by decide), t3]
      have g41 : rup ρ1 5 0 (l + 1) 4 1 = ρ 4 1 := by rw [rup_ne _ _ _ _ (by decide), m41]
      have g37 : rup ρ1 5 0 (l + 1) 37 = ρ 37 := by rw [rup_fn (by decide), m37]
      refine c_tok _ _ hT2 (by rw [g4, g41]; omega) rfl (fun ρ3 u1 u2 u3 u4 u5 u6 => ?_)
      rw [g37, g41, g4] at u3
      rw [g37, g41] at u4 u5
      have b1 := tkS_bd (T := ρ 37) ok.1.2
      have b2 := tkE_bd (T := ρ 37) b1.2
      have kx : ∀ a j, ¬ a = 5 → ρ3 a j = ρ1 a j := fun a j ha => by rw [u2 a j (fun z => ha z.1), rup_ne _ _ _ _ ha]
      have k3 : KA l ρ ρ3 := fun a j x y z => by rw [kx a j x]; exact t2.1 a j x (fun q => y ⟨q.1, by omega⟩) (fun q => z ⟨q.1, by omega⟩)
      have g0 : ρ3 5 0 = l + 1 := by rw [u2 5 0 (by omega)]; exact rup_same _ _ _ _
      have r6 : 0 ≤ ρ3 5 6 ∧ ρ3 5 6 ≤ 200 := u1.2 5 6
      have hx : ρ3 38 l = k ∧ ∀ j, 0 ≤ j → j < nOf k → ρ3 39 (5 * l + j) = N j := ⟨by rw [kx 38 l (by decide), t4], fun j j1 j2 => by rw [kx 39 _ (by decide)]; exact t5 j j1 j2⟩
      show G 43 72 (some (.ref 5) :: some (vI a1) :: some (vI a2) :: some (vI a3) :: some (vI a4) :: t) ((none : Option Value).toList ++ []) (toM ρ3 τ) Q
      rw [b43_72 ρ3 τ a1 a2 a3 a4 t u1.1 h1 h2 h3 h4]
      rw [u3] at u4 u5
      by_cases c0 : ρ3 5 5 = 0
      · rw [if_pos c0]
        exact Hs [(k, N)] (rdA_2 e (u4.symm.trans c0)) ρ3 u1 k3 (by rw [g0]; rfl) ⟨hx, trivial⟩
      · rw [if_neg c0]
        by_cases c3 : ρ3 5 5 = 3
        · rw [if_pos c3]
          have c3' := u4.symm.trans c3
          have eE := tkE_3 c3'
          have m37' : ρ3 37 = ρ 37 := funext fun j => (kx 37 j (by decide)).trans (congrFun m37 j)
          have m41' : ρ3 4 1 = ρ 4 1 := (kx 4 1 (by decide)).trans m41
          have eA := rdA_3 (f := f) e c3'
          refine ih (l + 1) (nh k (N 0) h) (nw k w) (nd k d) (ns k s) ρ3 t u1 (by rw [m41', u5]; omega) (by omega) (by omega) g0 (fun _ => by rw [u3, u5, eE]; omega) ⟨?_, ?_, ?_, ?_⟩ (fun x e2 x1 ρ' v1 v2 => ?_) (fun L e2 ρ' v1 v2 v3 v4 => ?_)
          · rw [u2 5 8 (by omega), rup5 (by decide)]; exact t6
          · rw [u2 5 9 (by omega), rup5 (by decide)]; exact t7
          · rw [u2 5 10 (by omega), rup5 (by decide)]; exact t8
          · rw [u2 5 11 (by omega), rup5 (by decide)]; exact t9
          · rw [m37', m41', u5] at e2
            rw [e2] at eA
            exact Hf x eA x1 ρ' v1 (fun a j x y z => (v2 a j x (fun q => y ⟨q.1, by omega⟩) (fun q => z ⟨q.1, by omega⟩)).trans (k3 a j x y z))
          · rw [m37', m41', u5] at e2
            rw [e2] at eA
            refine Hs ((k, N) :: L) eA ρ' v1 (fun a j x y z => (v2 a j x (fun q => y ⟨q.1, by omega⟩) (fun q => z ⟨q.1, by omega⟩)).trans (k3 a j x y z)) (by rw [v3, List.length_cons]; omega) ⟨⟨?_, fun j j1 j2 => ?_⟩, v4⟩
            · rw [v2 38 l (by decide) (by omega) (by omega)]; exact hx.1
            · have := nOf_rg k
              rw [v2 39 _ (by decide) (by omega) (by omega)]; exact hx.2 j j1 j2
        · rw [if_neg c3, u3]
          exact Hf _ (rdA_4 e (fun z => c0 (u4.trans z)) (fun z => c3 (u4.trans z))) (by omega) ρ3 u1 k3
theorem m_exit {ρ : rm} {τ : Int64} (hT : TI ρ) (ht : ¬ τ = (-2 : Int64)) (t : List (Option Value)) (H : Q (some (vI 0)) (toM (rup ρ 51 17 (ρ 51 13)) τ)) : G 133 44 (some (.ref 51) :: some (vI 0) :: t) [] (toM ρ τ) Q := by
  have n13 : 0 ≤ ρ 51 13 ∧ ρ 51 13 ≤ 200 := hT.2 51 13
  have hT2 := TI_up hT 51 17 (x := ρ 51 13) (show 0 ≤ ρ 51 13 ∧ ρ 51 13 ≤ 200 by omega) (by omega)
  rw [b133_44 ρ τ 0 t hT.1 (by decide), if_pos rfl, if_neg ht, b126_0 ρ τ hT.1, b133_122 _ τ 0 t 0 hT2.1 (by decide) (by decide), if_pos rfl]
  exact H
theorem m_rdA : ∀ (f : Nat) (l h w d s : Int) (ρ : rm) (τ : Int64) (t : List (Option Value)), TI ρ → (0 ≤ ρ 51 12 ∧ ρ 51 12 ≤ ρ 51 10) → 0 ≤ l → l + f = 10 → ρ 51 18 = l → (f = 0 → ρ 51 13 = ρ 51 12 - 1 ∧ ¬ τ = (-2 : Int64)) → (ρ 51 19 = h ∧ ρ 51 20 = w ∧ ρ 51 21 = d ∧ ρ 51 22 = s) →
    (∀ x, rdA (ρ 58) (ρ 51 10) f h w d s (ρ 51 12) = .inl x → ∀ ρ' τ', TI ρ' → KB l ρ ρ' → ρ' 51 17 = x → Q (some (vI 0)) (toM ρ' τ')) →
    (∀ L, rdA (ρ 58) (ρ 51 10) f h w d s (ρ 51 12) = .inr L → ∀ ρ' τ', TI ρ' → KB l ρ ρ' → ρ' 51 18 = l + (L.length : Int) → HM ρ' l L → Q (some (vI 1)) (toM ρ' τ')) →
    G 133 44 (some (.ref 51) :: some (vI (if f = 0 then 0 else 1)) :: t) [] (toM ρ τ) Q := by
  intro f
  induction f with
  | zero =>
    intro l h w d s ρ τ t hT hp hl hf hl0 h6 hst Hf Hs
    have n13 : 0 ≤ ρ 51 13 ∧ ρ 51 13 ≤ 200 := hT.2 51 13
    have hT2 := TI_up hT 51 17 (x := ρ 51 13) (show 0 ≤ ρ 51 13 ∧ ρ 51 13 ≤ 200 by omega) (by omega)
    rw [if_pos rfl]
    refine m_exit hT (h6 rfl).2 t (Hf _ rfl _ τ hT2 (fun a j x y => ?_) (by rw [rup_same, (h6 rfl).1]))
    unfold rup
    rw [if_neg (fun z => x ⟨z.1, by omega⟩)]
  | succ f ih =>
    intro l h w d s ρ τ t hT hp hl hf hl0 h6 hst Hf Hs
    rw [if_neg (by omega), b133_44 ρ τ 1 t hT.1 (by decide), if_neg (by decide), hl0]
    refine m_line (l := l) ⟨by omega, by omega⟩ hT hp hst (fun x e ρ' τ' t1 t2 t3 => ?_) (fun k p' N e ρ1 τ1 F => ?_)
    · show G 133 59 (some (.ref 51) :: some (vI 1) :: t) ((some (vI 0)).toList ++ []) (toM ρ' τ') Q
      rw [b133_59 ρ' τ' 1 t 0 t1.1 (by decide) (by decide), if_pos rfl]
      exact Hf x (rdA_1 e) ρ' τ' t1 (fun a j x y => t2 a j (fun q => x ⟨q.1, by omega⟩) (fun q => y ⟨q.1, by omega⟩)) t3
    · obtain ⟨t1, t2, t3, t4, t5, t6, t7, t8, t9⟩ := F
      have ok := rdL_ok hp.2 e
      have m18 : ρ1 51 18 = l := (t2 51 18 (by omega) (by omega)).trans hl0
      have m58 : ρ1 58 = ρ 58 := funext fun j => t2 58 j (by omega) (by omega)
      have m10 : ρ1 51 10 = ρ 51 10 := t2 51 10 (by omega) (by omega)
      show G 133 59 (some (.ref 51) :: some (vI 1) :: t) ((some (vI 1)).toList ++ []) (toM ρ1 τ1) Q
      rw [b133_59 ρ1 τ1 1 t 1 t1.1 (by decide) (by decide), if_neg (by decide), m18]
      have hT2 := TI_up t1 51 18 (x := l + 1) (show 0 ≤ l + 1 ∧ l + 1 ≤ 10 by omega) (by omega)
      have g12 : rup ρ1 51 18 (l + 1) 51 12 = p' := by rw [rup51 (by decide), t3]
      have g10 : rup ρ1 51 18 (l + 1) 51 10 = ρ 51 10 := by rw [rup51 (by decide), m10]
      have g58 : rup ρ1 51 18 (l + 1) 58 = ρ 58 := by rw [rup_fn (by decide), m58]
      refine m_tok _ _ hT2 (by rw [g12, g10]; omega) rfl (fun ρ3 u1 u2 u3 u4 u5 => ?_)
      rw [g58, g10, g12] at u3
      rw [g58, g10] at u4 ⊢
      have b1 := tkS_bd (T := ρ 58) ok.1.2
      have b2 := tkE_bd (T := ρ 58) b1.2
      have hn : 0 ≤ ρ 51 10 ∧ ρ 51 10 ≤ 200 := hT.2 51 10
      rw [u3] at u4 ⊢
      have kx : ∀ a j, ¬ (a = 51 ∧ 12 ≤ j ∧ j ≤ 18) → ρ3 a j = ρ1 a j := fun a j ha => by
        rw [u2 a j (by omega)]
        unfold rup
        rw [if_neg (fun z => ha ⟨z.1, by omega⟩)]
      have k3 : KB l ρ ρ3 := fun a j x y => by rw [kx a j (by omega)]; exact t2 a j (fun q => x ⟨q.1, by omega⟩) (fun q => y ⟨q.1, by omega⟩)
      have g18 : ρ3 51 18 = l + 1 := by rw [u2 51 18 (by omega)]; exact rup_same _ _ _ _
      have hx : ρ3 59 (6 * l) = k - 1 ∧ ∀ j, 0 ≤ j → j < nOf k → ρ3 59 (6 * l + 1 + j) = N j := ⟨by rw [kx 59 _ (by omega), t4], fun j j1 j2 => by rw [kx 59 _ (by omega)]; exact t5 j j1 j2⟩
      have i2 := tkT_2 (T := ρ 58) (n := ρ 51 10) (s := tkS (ρ 58) (ρ 51 10) p')
      have i3 := tkT_3 (T := ρ 58) (n := ρ 51 10) (s := tkS (ρ 58) (ρ 51 10) p')
      have lb := tkT_lb (T := ρ 58) (n := ρ 51 10) (s := tkS (ρ 58) (ρ 51 10) p')
      have j2 : jI (tkT (ρ 58) (ρ 51 10) (tkS (ρ 58) (ρ 51 10) p')) = (-2 : Int64) ↔ tkK (ρ 58) (ρ 51 10) (tkS (ρ 58) (ρ 51 10) p') = 0 := by rw [jI_m2, jI_eq lb (by decide)]; exact i2
      have j3 : jI (tkT (ρ 58) (ρ 51 10) (tkS (ρ 58) (ρ 51 10) p')) = (-3 : Int64) ↔ tkK (ρ 58) (ρ 51 10) (tkS (ρ 58) (ρ 51 10) p') = 3 := by rw [jI_m3, jI_eq lb (by decide)]; exact i3
      generalize jI (tkT (ρ 58) (ρ 51 10) (tkS (ρ 58) (ρ 51 10) p')) = τ3 at j2 j3 ⊢
      have n13 : 0 ≤ ρ3 51 13 ∧ ρ3 51 13 ≤ 200 := u1.2 51 13
      show G 133 78 (some (.ref 51) :: some (vI 1) :: t) ((none : Option Value).toList ++ []) (toM ρ3 τ3) Q
      rw [b133_78 ρ3 τ3 1 t u1.1 (by decide), g18]
      by_cases c3 : tkK (ρ 58) (ρ 51 10) (tkS (ρ 58) (ρ 51 10) p') = 3
      · rw [if_pos (j3.mpr c3)]
        have eE := tkE_3 c3
        have m58' : ρ3 58 = ρ 58 := funext fun j => (kx 58 j (by omega)).trans (congrFun m58 j)
        have m10' : ρ3 51 10 = ρ 51 10 := (kx 51 10 (by omega)).trans m10
        have eA := rdA_3 (f := f) e c3
        have R := ih (l + 1) (nh k (N 0) h) (nw k w) (nd k d) (ns k s) ρ3 τ3 t u1 (by rw [m10', u4]; omega) (by omega) (by omega) g18 (fun _ => ⟨by rw [u3, u4, eE]; omega, fun z => by have := j2.mp z; omega⟩) ⟨by rw [kx 51 19 (by omega)]; exact t6, by rw [kx 51 20 (by omega)]; exact t7, by rw [kx 51 21 (by omega)]; exact t8, by rw [kx 51 22 (by omega)]; exact t9⟩ (fun x e2 ρ' τ' v1 v2 v3 => by
            rw [m58', m10', u4] at e2
            rw [e2] at eA
            exact Hf x eA ρ' τ' v1 (fun a j x y => (v2 a j x (fun q => y ⟨q.1, by omega⟩)).trans (k3 a j x y)) v3) (fun L e2 ρ' τ' v1 v2 v3 v4 => by
            rw [m58', m10', u4] at e2
            rw [e2] at eA
            refine Hs ((k, N) :: L) eA ρ' τ' v1 (fun a j x y => (v2 a j x (fun q => y ⟨q.1, by omega⟩)).trans (k3 a j x y)) (by rw [v3, List.length_cons]; omega) ⟨⟨?_, fun j j1 j2 => ?_⟩, v4⟩
            · rw [v2 59 _ (by omega) (by omega)]; exact hx.1
            · have := nOf_rg k
              rw [v2 59 _ (by omega) (by omega)]; exact hx.2 j j1 j2)
        by_cases cf : f = 0
        · rw [if_pos cf] at R
          rw [if_pos (by omega)]
          exact R
        · rw [if_neg cf] at R
          rw [if_neg (by omega)]
          exact R
      · rw [if_neg (fun z => c3 (j3.mp z))]
        by_cases c0 : tkK (ρ 58) (ρ 51 10) (tkS (ρ 58) (ρ 51 10) p') = 0
        · rw [b133_44 ρ3 τ3 0 t u1.1 (by decide), if_pos rfl, if_pos (j2.mpr c0)]
          exact Hs [(k, N)] (rdA_2 e c0) ρ3 τ3 u1 k3 (by rw [g18]; rfl) ⟨hx, trivial⟩
        · have hT4 := TI_up u1 51 17 (x := ρ3 51 13) (show 0 ≤ ρ3 51 13 ∧ ρ3 51 13 ≤ 200 by omega) (by omega)
          refine m_exit u1 (fun z => c0 (j2.mp z)) t (Hf _ (rdA_4 e c0 c3) _ τ3 hT4 (fun a j x y => ?_) (by rw [rup_same, u3]))
          rw [← k3 a j x y]
          unfold rup
          rw [if_neg (fun z => x ⟨z.1, by omega⟩)]
end AL
