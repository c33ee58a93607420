/-! reading, both sides; fault -/
theorem KA.same {ρ ρ' : rm} {l : Int} (h : KA l ρ ρ') : Same ρ ρ' := fun k j hk => h k j (fun z => hk (by unfold scr; omega)) (fun z => hk (by unfold scr; omega)) (fun z => hk (by unfold scr; omega))
theorem KB.same {ρ ρ' : rm} {l : Int} (h : KB l ρ ρ') : Same ρ ρ' := fun k j hk => h k j (fun z => hk (by unfold scr; omega)) (fun z => hk (by unfold scr; omega))
section RD8
variable {Q : Option Value → mm → Prop}
theorem c_readAll {ρ : rm} {τ : Int64} {a1 a2 a3 a4 : Int} (hT : TI ρ) (h1 : 0 ≤ a1 ∧ a1 ≤ 10) (h2 : 0 ≤ a2 ∧ a2 ≤ 8) (h3 : 0 ≤ a3 ∧ a3 ≤ 10) (h4 : 0 ≤ a4 ∧ a4 ≤ 6)
    (Hf : ∀ x, rdA (ρ 37) (ρ 4 1) 10 a1 a2 a3 a4 0 = .inl x → 0 ≤ x ∧ x ≤ 200 → ∀ ρ', TI ρ' → KA 0 ρ ρ' → Q (some (vI x)) (toM ρ' τ))
    (Hs : ∀ L, rdA (ρ 37) (ρ 4 1) 10 a1 a2 a3 a4 0 = .inr L → ∀ ρ', TI ρ' → KA 0 ρ ρ' → ρ' 5 0 = (L.length : Int) → HC ρ' 0 L → Q (some (vI (-1))) (toM ρ' τ)) :
    G 43 0 [some (.ref 5), some (vI a1), some (vI a2), some (vI a3), some (vI a4)] [] (toM ρ τ) Q := by
  have n1 : 0 ≤ ρ 4 1 ∧ ρ 4 1 ≤ 200 := hT.2 4 1
  rw [b43_0 ρ τ a1 a2 a3 a4 hT.1 ⟨by omega, by omega⟩ ⟨by omega, by omega⟩ ⟨by omega, by omega⟩ ⟨by omega, by omega⟩]
  have t1 := TI_up hT 5 8 (x := a1) (show 0 ≤ a1 ∧ a1 ≤ 10 from h1) (by omega)
  have t2 := TI_up t1 5 9 (x := a2) (show 0 ≤ a2 ∧ a2 ≤ 8 from h2) (by omega)
  have t3 := TI_up t2 5 10 (x := a3) (show 0 ≤ a3 ∧ a3 ≤ 10 from h3) (by omega)
  have t4 := TI_up t3 5 11 (x := a4) (show 0 ≤ a4 ∧ a4 ≤ 6 from h4) (by omega)
  have t5 := TI_up t4 5 4 (x := 0) (show (0 : Int) ≤ 0 ∧ (0 : Int) ≤ 200 by omega) (by omega)
  have t6 := TI_up t5 5 0 (x := 0) (show (0 : Int) ≤ 0 ∧ (0 : Int) ≤ 10 by omega) (by omega)
  have e0 : rup (rup (rup (rup (rup (rup ρ 5 8 a1) 5 9 a2) 5 10 a3) 5 11 a4) 5 4 0) 5 0 0 5 0 = 0 := rup_same _ _ _ _
  have e4 : rup (rup (rup (rup (rup (rup ρ 5 8 a1) 5 9 a2) 5 10 a3) 5 11 a4) 5 4 0) 5 0 0 5 4 = 0 := by rw [rup5 (by decide)]; exact rup_same _ _ _ _
  have e8 : rup (rup (rup (rup (rup (rup ρ 5 8 a1) 5 9 a2) 5 10 a3) 5 11 a4) 5 4 0) 5 0 0 5 8 = a1 := by rw [rup5 (by decide), rup5 (by decide), rup5 (by decide), rup5 (by decide), rup5 (by decide)]; exact rup_same _ _ _ _
  have e9 : rup (rup (rup (rup (rup (rup ρ 5 8 a1) 5 9 a2) 5 10 a3) 5 11 a4) 5 4 0) 5 0 0 5 9 = a2 := by rw [rup5 (by decide), rup5 (by decide), rup5 (by decide), rup5 (by decide)]; exact rup_same _ _ _ _
  have e10 : rup (rup (rup (rup (rup (rup ρ 5 8 a1) 5 9 a2) 5 10 a3) 5 11 a4) 5 4 0) 5 0 0 5 10 = a3 := by rw [rup5 (by decide), rup5 (by decide), rup5 (by decide)]; exact rup_same _ _ _ _
  have e11 : rup (rup (rup (rup (rup (rup ρ 5 8 a1) 5 9 a2) 5 10 a3) 5 11 a4) 5 4 0) 5 0 0 5 11 = a4 := by rw [rup5 (by decide), rup5 (by decide)]; exact rup_same _ _ _ _
  have kx : ∀ a j, ¬ a = 5 → rup (rup (rup (rup (rup (rup ρ 5 8 a1) 5 9 a2) 5 10 a3) 5 11 a4) 5 4 0) 5 0 0 a j = ρ a j := fun a j ha => by
    rw [rup_ne _ _ _ _ ha, rup_ne _ _ _ _ ha, rup_ne _ _ _ _ ha, rup_ne _ _ _ _ ha, rup_ne _ _ _ _ ha, rup_ne _ _ _ _ ha]
  generalize rup (rup (rup (rup (rup (rup ρ 5 8 a1) 5 9 a2) 5 10 a3) 5 11 a4) 5 4 0) 5 0 0 = ρ0 at t6 e0 e4 e8 e9 e10 e11 kx ⊢
  have e37 : ρ0 37 = ρ 37 := funext fun j => kx 37 j (by decide)
  have e41 : ρ0 4 1 = ρ 4 1 := kx 4 1 (by decide)
  refine c_rdA (a1 := a1) (a2 := a2) (a3 := a3) (a4 := a4) ⟨by omega, by omega⟩ ⟨by omega, by omega⟩ ⟨by omega, by omega⟩ ⟨by omega, by omega⟩ 10 0 a1 a2 a3 a4 ρ0 [] t6 (by rw [e4, e41]; omega) (by omega) (by omega) e0 (fun z => by omega) ⟨e8, e9, e10, e11⟩ (fun x e x1 ρ' v1 v2 => ?_) (fun L e ρ' v1 v2 v3 v4 => ?_)
  · rw [e37, e41, e4] at e
    exact Hf x e x1 ρ' v1 (fun a j x y z => (v2 a j x y z).trans (kx a j x))
  · rw [e37, e41, e4] at e
    exact Hs L e ρ' v1 (fun a j x y z => (v2 a j x y z).trans (kx a j x)) (by omega) v4
theorem m_isRead {ρ : rm} {τ : Int64} (hT : TI ρ)
    (Hf : ∀ x, rdA (ρ 58) (ρ 51 10) 10 (ρ 51 0) (ρ 51 3) (ρ 51 5) (ρ 51 7) 0 = .inl x → ∀ ρ' τ', TI ρ' → KB 0 ρ ρ' → ρ' 51 17 = x → Q (some (vI 0)) (toM ρ' τ'))
    (Hs : ∀ L, rdA (ρ 58) (ρ 51 10) 10 (ρ 51 0) (ρ 51 3) (ρ 51 5) (ρ 51 7) 0 = .inr L → ∀ ρ' τ', TI ρ' → KB 0 ρ ρ' → ρ' 51 18 = (L.length : Int) → HM ρ' 0 L → Q (some (vI 1)) (toM ρ' τ')) :
    G 133 0 [some (.ref 51)] [] (toM ρ τ) Q := by
  have n1 : 0 ≤ ρ 51 10 ∧ ρ 51 10 ≤ 200 := hT.2 51 10
  have q0 : 2 ≤ ρ 51 0 ∧ ρ 51 0 ≤ 10 := hT.2 51 0
  have q3 : 0 ≤ ρ 51 3 ∧ ρ 51 3 ≤ 8 := hT.2 51 3
  have q5 : 0 ≤ ρ 51 5 ∧ ρ 51 5 ≤ 10 := hT.2 51 5
  have q7 : 0 ≤ ρ 51 7 ∧ ρ 51 7 ≤ 6 := hT.2 51 7
  rw [b133_0 ρ τ hT.1]
  generalize g0 : ρ 51 0 = a1 at q0 Hf Hs ⊢
  generalize g3 : ρ 51 3 = a2 at q3 Hf Hs ⊢
  generalize g5 : ρ 51 5 = a3 at q5 Hf Hs ⊢
  generalize g7 : ρ 51 7 = a4 at q7 Hf Hs ⊢
  have t1 := TI_up hT 51 12 (x := 0) (show (0 : Int) ≤ 0 ∧ (0 : Int) ≤ 200 by omega) (by omega)
  have t2 := TI_up t1 51 18 (x := 0) (show (0 : Int) ≤ 0 ∧ (0 : Int) ≤ 10 by omega) (by omega)
  have t3 := TI_up t2 51 19 (x := a1) (show 0 ≤ a1 ∧ a1 ≤ 10 by omega) (by omega)
  have t4 := TI_up t3 51 20 (x := a2) (show 0 ≤ a2 ∧ a2 ≤ 8 by omega) (by omega)
  have t5 := TI_up t4 51 21 (x := a3) (show 0 ≤ a3 ∧ a3 ≤ 10 by omega) (by omega)
  have t6 := TI_up t5 51 22 (x := a4) (show 0 ≤ a4 ∧ a4 ≤ 6 by omega) (by omega)
  have e22 : rup (rup (rup (rup (rup (rup ρ 51 12 0) 51 18 0) 51 19 a1) 51 20 a2) 51 21 a3) 51 22 a4 51 22 = a4 := rup_same _ _ _ _
  have e21 : rup (rup (rup (rup (rup (rup ρ 51 12 0) 51 18 0) 51 19 a1) 51 20 a2) 51 21 a3) 51 22 a4 51 21 = a3 := by rw [rup51 (by decide)]; exact rup_same _ _ _ _
  have e20 : rup (rup (rup (rup (rup (rup ρ 51 12 0) 51 18 0) 51 19 a1) 51 20 a2) 51 21 a3) 51 22 a4 51 20 = a2 := by rw [rup51 (by decide), rup51 (by decide)]; exact rup_same _ _ _ _
  have e19 : rup (rup (rup (rup (rup (rup ρ 51 12 0) 51 18 0) 51 19 a1) 51 20 a2) 51 21 a3) 51 22 a4 51 19 = a1 := by rw [rup51 (by decide), rup51 (by decide), rup51 (by decide)]; exact rup_same _ _ _ _
  have e18 : rup (rup (rup (rup (rup (rup ρ 51 12 0) 51 18 0) 51 19 a1) 51 20 a2) 51 21 a3) 51 22 a4 51 18 = 0 := by rw [rup51 (by decide), rup51 (by decide), rup51 (by decide), rup51 (by decide)]; exact rup_same _ _ _ _
  have e12 : rup (rup (rup (rup (rup (rup ρ 51 12 0) 51 18 0) 51 19 a1) 51 20 a2) 51 21 a3) 51 22 a4 51 12 = 0 := by rw [rup51 (by decide), rup51 (by decide), rup51 (by decide), rup51 (by decide), rup51 (by decide)]; exact rup_same _ _ _ _
  have kx : ∀ a j, ¬ (a = 51 ∧ 12 ≤ j ∧ j ≤ 22) → rup (rup (rup (rup (rup (rup ρ 51 12 0) 51 18 0) 51 19 a1) 51 20 a2) 51 21 a3) 51 22 a4 a j = ρ a j := fun a j ha => by
    unfold rup
    rw [if_neg (fun z => ha ⟨z.1, by omega⟩), if_neg (fun z => ha ⟨z.1, by omega⟩), if_neg (fun z => ha ⟨z.1, by omega⟩), if_neg (fun z => ha ⟨z.1, by omega⟩), if_neg (fun z => ha ⟨z.1, by omega⟩), if_neg (fun z => ha ⟨z.1, by omega⟩)]
  generalize rup (rup (rup (rup (rup (rup ρ 51 12 0) 51 18 0) 51 19 a1) 51 20 a2) 51 21 a3) 51 22 a4 = ρ0 at t6 e22 e21 e20 e19 e18 e12 kx ⊢
  have e58 : ρ0 58 = ρ 58 := funext fun j => kx 58 j (by omega)
  have e10 : ρ0 51 10 = ρ 51 10 := kx 51 10 (by omega)
  have R := m_rdA (Q := Q) 10 0 a1 a2 a3 a4 ρ0 τ [] t6 (by rw [e12, e10]; omega) (by omega) (by omega) e18 (fun z => by omega) ⟨e19, e20, e21, e22⟩ (fun x e ρ' τ' v1 v2 v3 => by
    rw [e58, e10, e12] at e
    exact Hf x e ρ' τ' v1 (fun a j x y => (v2 a j x y).trans (kx a j x)) v3) (fun L e ρ' τ' v1 v2 v3 v4 => by
    rw [e58, e10, e12] at e
    exact Hs L e ρ' τ' v1 (fun a j x y => (v2 a j x y).trans (kx a j x)) (by omega) v4)
  rw [if_neg (by decide)] at R
  exact R
theorem rd_eq {ρ : rm} (h : RR ρ) : rdA (ρ 37) (ρ 4 1) 10 (ρ 1 1) (ρ 1 2) (ρ 2 4) (ρ 3 0) 0 = rdA (ρ 58) (ρ 51 10) 10 (ρ 51 0) (ρ 51 3) (ρ 51 5) (ρ 51 7) 0 := by
  have e0 := h.n
  have e1 : ρ 1 2 = ρ 51 3 := h.2.1.2.1
  have e2 : ρ 2 4 = ρ 51 5 := h.D.1
  have e3 : ρ 3 0 = ρ 51 7 := h.S.1
  have e7 : ρ 4 1 = ρ 51 10 := h.T.1
  have n1 : 0 ≤ ρ 51 10 ∧ ρ 51 10 ≤ 200 := h.1.2 51 10
  rw [e0, e1, e2, e3, e7]
  exact rdA_cg (fun j j1 j2 => h.T.2 j j1 j2) 10 _ _ _ _ 0 (by omega) (by omega)
end RD8
theorem ag_fault : Agree 83 134 [] := by
  intro ρ τ h
  have hT := h.1
  have q1 : 2 ≤ ρ 1 1 ∧ ρ 1 1 ≤ 10 := hT.2 1 1
  have q2 : 0 ≤ ρ 1 2 ∧ ρ 1 2 ≤ 8 := hT.2 1 2
  have q3 : 0 ≤ ρ 2 4 ∧ ρ 2 4 ≤ 10 := hT.2 2 4
  have q4 : 0 ≤ ρ 3 0 ∧ ρ 3 0 ≤ 6 := hT.2 3 0
  rw [b83_0 ρ τ hT.1]
  have key : ∀ ρ', KA 0 ρ ρ' → TI ρ' → RR ρ' ∧ rdA (ρ' 58) (ρ' 51 10) 10 (ρ' 51 0) (ρ' 51 3) (ρ' 51 5) (ρ' 51 7) 0 = rdA (ρ 37) (ρ 4 1) 10 (ρ 1 1) (ρ 1 2) (ρ 2 4) (ρ 3 0) 0 := by
    intro ρ' v2 v1
    have hR := RR_same h v1 v2.same
    refine ⟨hR, ?_⟩
    rw [← rd_eq hR, funext fun j => v2.same 37 j (by unfold scr; omega), v2.same 4 1 (by unfold scr; omega), v2.same 1 1 (by unfold scr; omega), v2.same 1 2 (by unfold scr; omega), v2.same 2 4 (by unfold scr; omega), v2.same 3 0 (by unfold scr; omega)]
  refine c_readAll hT (by omega) q2 q3 q4 (fun x e x1 ρ' v1 v2 => ?_) (fun L e ρ' v1 v2 v3 v4 => ?_)
  · obtain ⟨hR, eq⟩ := key ρ' v2 v1
    show G 83 35 (some (.ref 0) :: []) ((some (vI x)).toList ++ []) (toM ρ' τ) _
    rw [b83_35 ρ' τ [] x v1.1 ⟨by omega, by omega⟩]
    refine ⟨x, ⟨by omega, by omega⟩, rfl, ?_⟩
    rw [b134_0 ρ' τ v1.1]
    refine m_isRead v1 (fun x' e' ρ2 τ2 u1 u2 u3 => ?_) (fun L e' ρ2 τ2 u1 u2 u3 u4 => ?_)
    · rw [eq, e] at e'
      cases e'
      show G 134 4 (some (.ref 51) :: []) ((some (vI 0)).toList ++ []) (toM ρ2 τ2) _
      rw [b134_4 ρ2 τ2 [] 0 u1.1 (by decide), if_pos rfl, u3]
      exact ⟨rfl, ρ2, τ2, rfl, RR_same hR u1 u2.same⟩
    · rw [eq, e] at e'
      cases e'
  · obtain ⟨hR, eq⟩ := key ρ' v2 v1
    show G 83 35 (some (.ref 0) :: []) ((some (vI (-1))).toList ++ []) (toM ρ' τ) _
    rw [b83_35 ρ' τ [] (-1) v1.1 (by decide)]
    refine ⟨-1, by decide, rfl, ?_⟩
    rw [b134_0 ρ' τ v1.1]
    refine m_isRead v1 (fun x' e' ρ2 τ2 u1 u2 u3 => ?_) (fun L e' ρ2 τ2 u1 u2 u3 u4 => ?_)
    · rw [eq, e] at e'
      cases e'
    · show G 134 4 (some (.ref 51) :: []) ((some (vI 1)).toList ++ []) (toM ρ2 τ2) _
      rw [b134_4 ρ2 τ2 [] 1 u1.1 (by decide), if_neg (by decide)]
      exact ⟨rfl, ρ2, τ2, rfl, RR_same hR u1 u2.same⟩
