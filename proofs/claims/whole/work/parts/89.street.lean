/-! street -/
theorem fwA_cg {n : Int} {D E : Int → Int → Int} (e : EqD n D E) : ∀ (k : Nat), (k : Int) ≤ n → EqD n (fwA D k) (fwA E k)
  | 0, _ => e
  | k + 1, hk => fwS_cg (fwA_cg e k (by omega)) (by omega)
def mdD (ρ : rm) : Int → Int → Int := fwA (layN (rdD (ρ 53) 100000) (fun q => ρ 54 (3 * q)) (fun q => ρ 54 (3 * q + 1)) (fun q => ρ 54 (3 * q + 2)) (ρ 51 3).toNat) (ρ 51 0).toNat
theorem st_far {σ ρ : rm} (h : RLn σ ρ) (hS : TI σ) (hT : TI ρ) : ∀ a b, (0 ≤ a ∧ a < ρ 51 0) → (0 ≤ b ∧ b < ρ 51 0) → stD σ 1000000 a b = mdD ρ a b ∧ mdD ρ a b = mdD ρ b a ∧ mdD ρ a b ≤ 891 ∧ (a = b → mdD ρ a b = 0) := by
  obtain ⟨a1, a2, a3, a4, a5, a6, -, -⟩ := h
  have q1 : 2 ≤ ρ 51 0 ∧ ρ 51 0 ≤ 10 := hT.2 51 0
  have q2 : 0 ≤ ρ 51 3 ∧ ρ 51 3 ≤ 8 := hT.2 51 3
  have hwy : ∀ h, 0 ≤ h → h < ρ 51 0 → 0 ≤ σ 12 h ∧ σ 12 h ≤ 99 := fun h _ _ => hS.2 12 h
  have hw : ∀ q, 0 ≤ q → q < (((ρ 51 3).toNat : Nat) : Int) → (0 ≤ ρ 54 (3 * q) ∧ ρ 54 (3 * q) < ρ 51 0) ∧ (0 ≤ ρ 54 (3 * q + 1) ∧ ρ 54 (3 * q + 1) < ρ 51 0) ∧ ρ 54 (3 * q) ≠ ρ 54 (3 * q + 1) ∧ 0 ≤ ρ 54 (3 * q + 2) := fun q z1 z2 => by
    have b1 := a6 q z1 (by omega)
    have b2 := T54a hT q
    have b3 := T54b hT q
    have b4 : 0 ≤ σ 15 q ∧ σ 15 q ≤ 99 := hS.2 15 q
    omega
  have E1 : EqD (ρ 51 0) (layN (rdD (σ 12) 1000000) (σ 13) (σ 14) (σ 15) (ρ 51 3).toNat) (layN (rdD (σ 12) 1000000) (fun q => ρ 54 (3 * q)) (fun q => ρ 54 (3 * q + 1)) (fun q => ρ 54 (3 * q + 2)) (ρ 51 3).toNat) :=
    layN_cg (fun _ _ _ _ => rfl) _ (fun q z1 z2 => by have b1 := a6 q z1 (by omega); exact ⟨b1.1, b1.2.1, b1.2.2.1⟩)
  have cp : CapD (ρ 51 0) (layN (rdD (σ 12) 1000000) (fun q => ρ 54 (3 * q)) (fun q => ρ 54 (3 * q + 1)) (fun q => ρ 54 (3 * q + 2)) (ρ 51 3).toNat) (layN (rdD (ρ 53) 100000) (fun q => ρ 54 (3 * q)) (fun q => ρ 54 (3 * q + 1)) (fun q => ρ 54 (3 * q + 2)) (ρ 51 3).toNat) :=
    cap_layN (rdD_cap hwy (fun h z1 z2 => a5 h z1 (by omega))) _ (fun q z1 z2 => by have b1 := a6 q z1 (by omega); have b4 : 0 ≤ σ 15 q ∧ σ 15 q ≤ 99 := hS.2 15 q; show ρ 54 (3 * q + 2) ≤ 99; omega)
  have ok := layN_ok (n := ρ 51 0) (fr := fun q => ρ 54 (3 * q)) (to_ := fun q => ρ 54 (3 * q + 1)) (ov := fun q => ρ 54 (3 * q + 2)) (rdD_ok hwy (far := 1000000) (by omega)) (ρ 51 3).toNat hw
  have nr := nr_layN (n := ρ 51 0) (D := rdD (σ 12) 1000000) (fr := fun q => ρ 54 (3 * q)) (to_ := fun q => ρ 54 (3 * q + 1)) (ov := fun q => ρ 54 (3 * q + 2)) (fun a z1 z2 => by
    have := hwy a z1 (by omega)
    unfold rdD
    rw [if_neg (by omega), if_pos rfl]
    omega) (ρ 51 3).toNat
  intro a b ha hb
  unfold stD mdD
  rw [a1, a2, fwA_cg E1 (ρ 51 0).toNat (by omega) a b ha hb]
  have c1 := cap_fw cp ok (ρ 51 0).toNat (by omega) a b ha hb
  have c2 := cap_fw cp ok (ρ 51 0).toNat (by omega) b a hb ha
  have o1 := fwA_ok ok (ρ 51 0).toNat (by omega) a b ha hb
  have n1 := fw_891 (by omega) ok nr a b ha hb
  have n2 := fw_891 (by omega) ok nr b a hb ha
  refine ⟨by omega, by omega, by omega, fun e => ?_⟩
  have := o1.2.2 e
  omega
theorem sumR_cg {f g : Int → Int} : ∀ (d : Nat) (k : Int), (∀ j, k ≤ j → j < k + d → f j = g j) → sumR f k d = sumR g k d
  | 0, k, _ => rfl
  | d + 1, k, h => by
    simp only [sumR]
    rw [h k (by omega) (by omega), sumR_cg d (k + 1) (fun j j1 j2 => h j (by omega) (by omega))]
theorem RR.rl {ρ : rm} (h : RR ρ) : RLn ρ ρ := by
  obtain ⟨h1, h2, h3, h4, h5, h6, -⟩ := h.2.1
  exact ⟨h1, h2, h3, h4, h5, h6, h.D, h.S⟩
section SE
variable {Q : Option Value → mm → Prop} {τ : Int64}
theorem c_wrest {ρ : rm} (hT : TI ρ) : G 76 0 [some (.ref 6)] [] (toM ρ τ) Q = Q none (toM (rup (rup (rup (rup ρ 6 0 0) 6 1 0) 40 0 (-1)) 40 1 (-1)) τ) := by
  have t1 := TI_up (TI_up hT 6 0 (x := 0) ⟨by decide, by decide⟩ (by omega)) 6 1 (x := 0) ⟨by decide, by decide⟩ (by omega)
  have t2 := TI_up t1 40 0 (x := -1) ⟨by decide, by decide⟩ (by omega)
  have t3 := TI_up t2 40 1 (x := -1) ⟨by decide, by decide⟩ (by omega)
  rw [b76_0 ρ τ hT.1, b76_12 _ τ 0 [] t1.1 (by decide), if_neg (by decide), if_pos (by decide), b76_12 _ τ _ [] t2.1 (by decide), if_neg (by decide), if_pos (by decide)]
  exact (b76_12 _ τ _ [] t3.1 (by decide)).trans (if_pos (by decide))
end SE
/-- what the class has behind a street -/
theorem ag_street : Agree 84 136 [] := by
  intro ρ τ h
  have hT := h.1
  have q1 : 2 ≤ ρ 1 1 ∧ ρ 1 1 ≤ 10 := hT.2 1 1
  have q2 : 0 ≤ ρ 1 2 ∧ ρ 1 2 ≤ 8 := hT.2 1 2
  have q3 : 0 ≤ ρ 2 4 ∧ ρ 2 4 ≤ 10 := hT.2 2 4
  have q4 : 0 ≤ ρ 3 0 ∧ ρ 3 0 ≤ 6 := hT.2 3 0
  have hn := h.nb
  rw [b84_0 ρ τ hT.1]
  refine c_readAll hT (by omega) q2 q3 q4 (fun x e x1 ρ1 v1 v2 => ?_) (fun L e ρ1 v1 v2 v3 v4 => ?_)
  · have hR := RR_same h v1 v2.same
    have eq : rdA (ρ1 58) (ρ1 51 10) 10 (ρ1 51 0) (ρ1 51 3) (ρ1 51 5) (ρ1 51 7) 0 = .inl x := by
      rw [← rd_eq hR, funext fun j => v2.same 37 j (by unfold scr; omega), v2.same 4 1 (by unfold scr; omega), v2.same 1 1 (by unfold scr; omega), v2.same 1 2 (by unfold scr; omega), v2.same 2 4 (by unfold scr; omega), v2.same 3 0 (by unfold scr; omega)]
      exact e
    show G 84 35 (some (.ref 0) :: []) ((some (vI x)).toList ++ []) (toM ρ1 τ) _
    rw [b84_35 ρ1 τ [] x v1.1 ⟨by omega, by omega⟩, if_neg (by omega)]
    refine ⟨-4, by decide, rfl, ?_⟩
    rw [b136_0 ρ1 τ v1.1]
    refine m_isRead v1 (fun x' e' ρ2 τ2 u1 u2 u3 => ?_) (fun L e' ρ2 τ2 u1 u2 u3 u4 => ?_)
    · show G 136 4 (some (.ref 51) :: []) ((some (vI 0)).toList ++ []) (toM ρ2 τ2) _
      rw [b136_4 ρ2 τ2 [] 0 u1.1 (by decide), if_pos rfl]
      exact ⟨rfl, ρ2, τ2, rfl, RR_same hR u1 u2.same⟩
    · rw [eq] at e'
      cases e'
  · have hR1 := RR_same h v1 v2.same
    have r1 := rdA_ok 10 _ _ _ _ _ L (by have : 0 ≤ ρ 4 1 ∧ ρ 4 1 ≤ 200 := hT.2 4 1; omega) e
    have vlC : VL (ρ1 1 1) (ρ1 1 2) (ρ1 2 4) (ρ1 3 0) L := by
      rw [v2.same 1 1 (by unfold scr; omega), v2.same 1 2 (by unfold scr; omega), v2.same 2 4 (by unfold scr; omega), v2.same 3 0 (by unfold scr; omega)]
      exact r1.1
    have eN : ρ1 1 1 = ρ1 51 0 := hR1.n
    have eW : ρ1 1 2 = ρ1 51 3 := hR1.2.1.2.1
    have eD : ρ1 2 4 = ρ1 51 5 := hR1.D.1
    have eS : ρ1 3 0 = ρ1 51 7 := hR1.S.1
    have vlM : VL (ρ1 51 0) (ρ1 51 3) (ρ1 51 5) (ρ1 51 7) L := by rw [← eN, ← eW, ← eD, ← eS]; exact vlC
    have len0 : 0 ≤ (L.length : Int) ∧ (L.length : Int) ≤ 10 := by have := r1.2; omega
    have rl2 := (rl_all L ρ1 ρ1 hR1.rl v1 vlM)
    show G 84 35 (some (.ref 0) :: []) ((some (vI (-1))).toList ++ []) (toM ρ1 τ) _
    rw [b84_35 ρ1 τ [] (-1) v1.1 (by decide), if_pos rfl]
    refine c_lines L 0 ρ1 _ v1 (by omega) v4 vlC (by omega) (fun hT2 t2 => ?_)
    have k5 : clA L ρ1 5 0 = ρ1 5 0 := clA_keep L ρ1 0 (by unfold stC; omega)
    have kM : ∀ a j, 37 ≤ a → clA L ρ1 a j = ρ1 a j := fun a j ha => clA_keep L ρ1 j (by unfold stC; omega)
    have kX : ∀ a j, ¬ stC a → clA L ρ1 a j = ρ1 a j := fun a j ha => clA_keep L ρ1 j ha
    have rl2' := rl2.1
    obtain ⟨g1, g2, g3, g4, g5, g6, -, -⟩ := rl2.1
    generalize hρ2 : clA L ρ1 = ρ2 at *
    rw [b84_44 ρ2 τ _ t2 hT2.1 ⟨by omega, by omega⟩, if_pos (by omega)]
    refine c_settle hT2 g3 (fun q z1 z2 => by have := g6 q z1 (by omega); omega) (fun ρ3 hT3 hK3 hO3 hE3 => ?_)
    show G 84 73 (some (.ref 0) :: some (vI (ρ1 5 0)) :: t2) ((none : Option Value).toList ++ []) (toM ρ3 τ) _
    rw [b84_73 ρ3 τ _ t2 hT3.1 ⟨by omega, by omega⟩]
    refine c_dset hT3 (fun ρ4 hT4 hK4 hS4 => ?_)
    show G 84 80 (some (.ref 0) :: some (vI (ρ1 5 0)) :: t2) ((none : Option Value).toList ++ []) (toM ρ4 τ) _
    have sl : SM (ρ1 5 0) := ⟨by omega, by omega⟩
    have t41 : TI (rup ρ4 4 1 0) := TI_up hT4 4 1 (x := 0) ⟨by decide, by decide⟩ (by omega)
    have t42 : TI (rup (rup (rup (rup (rup ρ4 4 1 0) 6 0 0) 6 1 0) 40 0 (-1)) 40 1 (-1)) := TI_up (TI_up (TI_up (TI_up t41 6 0 (x := 0) ⟨by decide, by decide⟩ (by omega)) 6 1 (x := 0) ⟨by decide, by decide⟩ (by omega)) 40 0 (x := -1) ⟨by decide, by decide⟩ (by omega)) 40 1 (x := -1) ⟨by decide, by decide⟩ (by omega)
    have t43 : TI (rup (rup (rup (rup (rup (rup ρ4 4 1 0) 6 0 0) 6 1 0) 40 0 (-1)) 40 1 (-1)) 7 0 0) := TI_up t42 7 0 (x := 0) ⟨by decide, by decide⟩ (by omega)
    have t44 : TI (rup (rup (rup (rup (rup (rup (rup ρ4 4 1 0) 6 0 0) 6 1 0) 40 0 (-1)) 40 1 (-1)) 7 0 0) 8 0 0) := TI_up t43 8 0 (x := 0) ⟨by decide, by decide⟩ (by omega)
    have t45 : TI (rup (rup (rup (rup (rup (rup (rup (rup ρ4 4 1 0) 6 0 0) 6 1 0) 40 0 (-1)) 40 1 (-1)) 7 0 0) 8 0 0) 9 0 0) := TI_up t44 9 0 (x := 0) ⟨by decide, by decide⟩ (by omega)
    have w1 := hT4.1 4 1 (by decide)
    have w2 := t42.1 7 0 (by decide)
    have w3 := t43.1 8 0 (by decide)
    have w4 := t44.1 9 0 (by decide)
    rw [b84_80 ρ4 τ _ t2 hT4.1 sl, b70_0 ρ4 τ hT4.1, b84_87 _ τ _ t2 _ t41.1 sl ⟨by omega, by omega⟩, c_wrest t41, b84_95 _ τ _ t2 t42.1 sl, b73_0 _ τ t42.1, b84_102 _ τ _ t2 _ t43.1 sl ⟨by omega, by omega⟩, b2_0 _ τ t43.1, b84_110 _ τ _ t2 _ t44.1 sl ⟨by omega, by omega⟩, b64_0 _ τ t44.1, b84_118 _ τ _ t2 _ t45.1 sl ⟨by omega, by omega⟩]
    have f5 : ∀ a j, ¬ (a = 4 ∨ a = 6 ∨ a = 40 ∨ a = 7 ∨ a = 8 ∨ a = 9) → rup (rup (rup (rup (rup (rup (rup (rup ρ4 4 1 0) 6 0 0) 6 1 0) 40 0 (-1)) 40 1 (-1)) 7 0 0) 8 0 0) 9 0 0 a j = ρ4 a j := fun a j ha => by
      rw [rup_ne _ _ _ _ (by omega), rup_ne _ _ _ _ (by omega), rup_ne _ _ _ _ (by omega), rup_ne _ _ _ _ (by omega), rup_ne _ _ _ _ (by omega), rup_ne _ _ _ _ (by omega), rup_ne _ _ _ _ (by omega), rup_ne _ _ _ _ (by omega)]
    have z41 : rup (rup (rup (rup (rup (rup (rup (rup ρ4 4 1 0) 6 0 0) 6 1 0) 40 0 (-1)) 40 1 (-1)) 7 0 0) 8 0 0) 9 0 0 4 1 = 0 := by simp [rup]
    have z60 : rup (rup (rup (rup (rup (rup (rup (rup ρ4 4 1 0) 6 0 0) 6 1 0) 40 0 (-1)) 40 1 (-1)) 7 0 0) 8 0 0) 9 0 0 6 0 = 0 := by simp [rup]
    have z61 : rup (rup (rup (rup (rup (rup (rup (rup ρ4 4 1 0) 6 0 0) 6 1 0) 40 0 (-1)) 40 1 (-1)) 7 0 0) 8 0 0) 9 0 0 6 1 = 0 := by simp [rup]
    have z40 : rup (rup (rup (rup (rup (rup (rup (rup ρ4 4 1 0) 6 0 0) 6 1 0) 40 0 (-1)) 40 1 (-1)) 7 0 0) 8 0 0) 9 0 0 40 0 = -1 := by simp [rup]
    have z4b : rup (rup (rup (rup (rup (rup (rup (rup ρ4 4 1 0) 6 0 0) 6 1 0) 40 0 (-1)) 40 1 (-1)) 7 0 0) 8 0 0) 9 0 0 40 1 = -1 := by simp [rup]
    have z7 : rup (rup (rup (rup (rup (rup (rup (rup ρ4 4 1 0) 6 0 0) 6 1 0) 40 0 (-1)) 40 1 (-1)) 7 0 0) 8 0 0) 9 0 0 7 0 = 0 := by simp [rup]
    have z8 : rup (rup (rup (rup (rup (rup (rup (rup ρ4 4 1 0) 6 0 0) 6 1 0) 40 0 (-1)) 40 1 (-1)) 7 0 0) 8 0 0) 9 0 0 8 0 = 0 := by simp [rup]
    have z9 : rup (rup (rup (rup (rup (rup (rup (rup ρ4 4 1 0) 6 0 0) 6 1 0) 40 0 (-1)) 40 1 (-1)) 7 0 0) 8 0 0) 9 0 0 9 0 = 0 := by simp [rup]
    generalize rup (rup (rup (rup (rup (rup (rup (rup ρ4 4 1 0) 6 0 0) 6 1 0) 40 0 (-1)) 40 1 (-1)) 7 0 0) 8 0 0) 9 0 0 = ρ5 at t45 f5 z41 z60 z61 z40 z4b z7 z8 z9 ⊢
    have m5 : ∀ a j, 51 ≤ a → ρ5 a j = ρ1 a j := fun a j ha => by rw [f5 a j (by omega), hK4 a j (by omega), hK3 a j (by omega), kM a j (by omega)]
    have c5 : ρ5 5 0 = (L.length : Int) := by rw [f5 5 0 (by omega), hK4 5 0 (by omega), hK3 5 0 (by omega), k5, v3]
    rw [c5]
    refine ⟨_, ⟨by omega, by omega⟩, rfl, ?_⟩
    have eq : rdA (ρ5 58) (ρ5 51 10) 10 (ρ5 51 0) (ρ5 51 3) (ρ5 51 5) (ρ5 51 7) 0 = .inr L := by
      rw [show ρ5 58 = ρ1 58 from funext fun j => m5 58 j (by omega), m5 51 10 (by omega), m5 51 0 (by omega), m5 51 3 (by omega), m5 51 5 (by omega), m5 51 7 (by omega), ← rd_eq hR1, show ρ1 37 = ρ 37 from funext fun j => v2.same 37 j (by unfold scr; omega), v2.same 4 1 (by unfold scr; omega), v2.same 1 1 (by unfold scr; omega), v2.same 1 2 (by unfold scr; omega), v2.same 2 4 (by unfold scr; omega), v2.same 3 0 (by unfold scr; omega)]
      exact e
    rw [b136_0 ρ5 τ t45.1]
    refine m_isRead t45 (fun x' e' ρ6 τ6 u1 u2 u3 => ?_) (fun L' e' ρ6 τ6 u1 u2 u3 u4 => ?_)
    · rw [eq] at e'
      cases e'
    · rw [eq] at e'
      cases e'
      show G 136 4 (some (.ref 51) :: []) ((some (vI 1)).toList ++ []) (toM ρ6 τ6) _
      rw [b136_4 ρ6 τ6 [] 1 u1.1 (by decide), if_neg (by decide)]
      have m6 : ∀ a j, 51 ≤ a → ¬ (a = 51 ∧ 12 ≤ j ∧ j ≤ 22) → ¬ a = 59 → ρ6 a j = ρ1 a j := fun a j ha h1 h2 => by rw [u2 a j h1 (fun z => h2 z.1), m5 a j ha]
      have rl6 : RLn ρ1 ρ6 := hR1.rl.mod (fun a j ha hb => m6 a j (by unfold stM at ha; omega) (by omega) (by unfold stM at ha; omega))
      have vl6 : VL (ρ6 51 0) (ρ6 51 3) (ρ6 51 5) (ρ6 51 7) L := by
        rw [m6 51 0 (by omega) (by omega) (by omega), m6 51 3 (by omega) (by omega) (by omega), m6 51 5 (by omega) (by omega) (by omega), m6 51 7 (by omega) (by omega) (by omega)]
        exact vlM
      have rl7 := (rl_all L ρ1 ρ6 rl6 u1 vl6).1
      rw [hρ2] at rl7
      refine m_lines L 0 ρ6 _ u1 (by omega) u4 vl6 (by omega) (fun hT7 t7 => ?_)
      have k18 : mdA L ρ6 51 18 = ρ6 51 18 := mdA_keep L ρ6 (by unfold stM; omega)
      have kc7 : ∀ a j, a < 51 → mdA L ρ6 a j = ρ6 a j := fun a j ha => mdA_keep L ρ6 (by unfold stM; omega)
      generalize mdA L ρ6 = ρ7 at *
      rw [b136_12 ρ7 τ6 _ t7 hT7.1 ⟨by omega, by omega⟩, if_pos (by omega)]
      have sf := st_far rl7 hT2 hT7
      obtain ⟨p1, p2, p3, p4, p5, p6, p7, p8⟩ := rl7
      refine m_layFar hT7 (fun q z1 z2 => by have := p6 q z1 z2; omega) (fun ρ8 hT8 hK8 hE8 => ?_)
      show G 136 38 (some (.ref 51) :: some (vI (ρ6 51 18)) :: t7) ((none : Option Value).toList ++ []) (toM ρ8 τ6) _
      rw [b136_38 ρ8 τ6 _ t7 hT8.1 ⟨by omega, by omega⟩, if_pos (by decide), if_pos (by decide)]
      have e18 : ρ8 51 18 = (L.length : Int) := by rw [hK8 51 18 (by decide), k18, u3]
      refine ⟨by rw [e18], _, τ6, rfl, ?_⟩
      have hT9 : TI (rup (rup (rup (rup (rup (rup (rup (rup ρ8 51 10 0) 51 24 0) 51 25 0) 51 28 0) 51 30 0) 51 32 0) 61 0 0) 61 1 0) := TI_up (TI_up (TI_up (TI_up (TI_up (TI_up (TI_up (TI_up hT8 51 10 (x := 0) ⟨by decide, by decide⟩ (by omega)) 51 24 (x := 0) ⟨by decide, by decide⟩ (by omega)) 51 25 (x := 0) ⟨by decide, by decide⟩ (by omega)) 51 28 (x := 0) ⟨by decide, by decide⟩ (by omega)) 51 30 (x := 0) ⟨by decide, by decide⟩ (by omega)) 51 32 (x := 0) ⟨by decide, by decide⟩ (by omega)) 61 0 (x := 0) ⟨by decide, by decide⟩ (by omega)) 61 1 (x := 0) ⟨by decide, by decide⟩ (by omega)
      have f9 : ∀ a j, ¬ (a = 61 ∨ (a = 51 ∧ (j = 10 ∨ j = 24 ∨ j = 25 ∨ j = 28 ∨ j = 30 ∨ j = 32))) → rup (rup (rup (rup (rup (rup (rup (rup ρ8 51 10 0) 51 24 0) 51 25 0) 51 28 0) 51 30 0) 51 32 0) 61 0 0) 61 1 0 a j = ρ8 a j := fun a j ha => by
        unfold rup
        rw [if_neg (by omega), if_neg (by omega), if_neg (by omega), if_neg (by omega), if_neg (by omega), if_neg (by omega), if_neg (by omega), if_neg (by omega)]
      have y10 : rup (rup (rup (rup (rup (rup (rup (rup ρ8 51 10 0) 51 24 0) 51 25 0) 51 28 0) 51 30 0) 51 32 0) 61 0 0) 61 1 0 51 10 = 0 := by simp [rup]
      have y24 : rup (rup (rup (rup (rup (rup (rup (rup ρ8 51 10 0) 51 24 0) 51 25 0) 51 28 0) 51 30 0) 51 32 0) 61 0 0) 61 1 0 51 24 = 0 := by simp [rup]
      have y25 : rup (rup (rup (rup (rup (rup (rup (rup ρ8 51 10 0) 51 24 0) 51 25 0) 51 28 0) 51 30 0) 51 32 0) 61 0 0) 61 1 0 51 25 = 0 := by simp [rup]
      have y28 : rup (rup (rup (rup (rup (rup (rup (rup ρ8 51 10 0) 51 24 0) 51 25 0) 51 28 0) 51 30 0) 51 32 0) 61 0 0) 61 1 0 51 28 = 0 := by simp [rup]
      have y30 : rup (rup (rup (rup (rup (rup (rup (rup ρ8 51 10 0) 51 24 0) 51 25 0) 51 28 0) 51 30 0) 51 32 0) 61 0 0) 61 1 0 51 30 = 0 := by simp [rup]
      have y32 : rup (rup (rup (rup (rup (rup (rup (rup ρ8 51 10 0) 51 24 0) 51 25 0) 51 28 0) 51 30 0) 51 32 0) 61 0 0) 61 1 0 51 32 = 0 := by simp [rup]
      have y61 : ∀ k, 0 ≤ k → k < 2 → rup (rup (rup (rup (rup (rup (rup (rup ρ8 51 10 0) 51 24 0) 51 25 0) 51 28 0) 51 30 0) 51 32 0) 61 0 0) 61 1 0 61 k = 0 := fun k z1 z2 => by
        rcases (show k = 0 ∨ k = 1 by omega) with rfl | rfl <;> simp [rup]
      generalize rup (rup (rup (rup (rup (rup (rup (rup ρ8 51 10 0) 51 24 0) 51 25 0) 51 28 0) 51 30 0) 51 32 0) 61 0 0) 61 1 0 = ρ9 at *
      -- the class's cells at the end
      have c9 : ∀ a j, a < 51 → ρ9 a j = ρ5 a j := fun a j ha => by rw [f9 a j (by omega), hK8 a j (by omega), kc7 a j ha, u2 a j (by omega) (by omega)]
      have c92 : ∀ a j, stC a → ρ9 a j = ρ2 a j := fun a j ha => by
        unfold stC at ha
        rw [c9 a j (by omega), f5 a j (by omega), hK4 a j (by omega), hK3 a j (by omega)]
      have n9 : ρ9 51 0 = ρ7 51 0 := by rw [f9 51 0 (by omega), hK8 51 0 (by omega)]
      have m97 : ∀ a j, 51 ≤ a → ¬ a = 57 → ¬ (a = 61 ∨ (a = 51 ∧ (j = 10 ∨ j = 24 ∨ j = 25 ∨ j = 28 ∨ j = 30 ∨ j = 32))) → ρ9 a j = ρ7 a j := fun a j ha hb hc => by rw [f9 a j hc, hK8 a j hb]
      have rl9 : RLn ρ9 ρ9 := RLn.mod (RLn.cls ⟨p1, p2, p3, p4, p5, p6, p7, p8⟩ (fun a j ha _ => c92 a j ha)) (fun a j ha hb => m97 a j (by unfold stM at ha; omega) (by unfold stM at ha; omega) (by unfold stM at ha; omega))
      obtain ⟨i1, i2, i3, i4, i5, i6, i7, i8⟩ := rl9
      have nb9 : 2 ≤ ρ9 51 0 ∧ ρ9 51 0 ≤ 10 := hT9.2 51 0
      have n2 : ρ2 1 1 = ρ7 51 0 := p1
      refine ⟨hT9, ⟨i1, i2, i3, i4, i5, i6, fun x x1 x2 => ?_, fun a b z1 z2 z3 z4 => ?_, fun a z1 z2 => ?_⟩, i7, ?_, i8, ?_, ?_, ?_, ?_, ?_⟩
      · rw [c9 10 x (by omega), f5 10 x (by omega), hK4 10 x (by omega), hO3 x x1 (by omega)]
        refine sumR_cg _ _ (fun j j1 j2 => ?_)
        rw [← i4 j (by omega) (by omega), c92 11 j (by unfold stC; omega)]
      · have s1 := sf a b (by omega) (by omega)
        have e1 : ∀ u v, ρ9 57 (10 * u + v) = dM ρ8 u v := fun u v => f9 57 _ (by omega)
        have e2 : ρ9 (17 + (min a 9).toNat) b = dC ρ3 a b := by
          rw [Int.min_eq_left (by omega), c9 _ b (by omega), f5 _ b (by omega), hK4 _ b (by omega)]
          rfl
        dsimp only
        rw [e2, e1 a b, e1 b a, hE3 a b (by omega) (by omega), hE8 a b (by omega) (by omega), hE8 b a (by omega) (by omega)]
        exact ⟨s1.1, s1.2.1, s1.2.2.1⟩
      · have s1 := sf a a (by omega) (by omega)
        have e1 : ∀ u v, ρ9 57 (10 * u + v) = dM ρ8 u v := fun u v => f9 57 _ (by omega)
        rw [e1 a a, hE8 a a (by omega) (by omega)]
        exact s1.2.2.2 rfl
      · have e24 : ρ9 2 4 = ρ3 2 4 := by rw [c92 2 4 (by unfold stC; omega), hK3 2 4 (by omega)]
        have e30 : ρ9 30 = ρ4 30 := funext fun j => by rw [c9 30 j (by omega), f5 30 j (by omega)]
        have e27 : ρ9 27 = ρ3 27 := funext fun j => by rw [c92 27 j (by unfold stC; omega), hK3 27 j (by omega)]
        have e28 : ρ9 28 = ρ3 28 := funext fun j => by rw [c92 28 j (by unfold stC; omega), hK3 28 j (by omega)]
        have e10 : ρ9 10 = ρ3 10 := funext fun j => by rw [c9 10 j (by omega), f5 10 j (by omega), hK4 10 j (by omega)]
        unfold RO
        rw [e24, e30, e27, e28, e10]
        exact hS4
      · refine ⟨by rw [c9 4 1 (by omega), z41, y10], fun j j1 j2 => ?_⟩
        rw [y10] at j2
        omega
      · refine ⟨by rw [c9 6 0 (by omega), z60, y24], by rw [y24]; omega, by rw [c9 6 1 (by omega), z61, y25], fun k k1 k2 => ?_⟩
        have e61 := y61 k k1 k2
        have e40 : ρ9 40 k = -1 := by
          rw [c9 40 k (by omega)]
          rcases (show k = 0 ∨ k = 1 by omega) with rfl | rfl
          · exact z40
          · exact z4b
        exact ⟨⟨fun _ => e61, fun _ => e40⟩, fun z => absurd e61 z⟩
      · refine ⟨by rw [c9 7 0 (by omega), z7, y28], fun j j1 j2 => ?_⟩
        rw [y28] at j2
        omega
      · refine ⟨by rw [c9 8 0 (by omega), z8, y30], fun j j1 j2 => ?_⟩
        rw [y30] at j2
        omega
      · refine ⟨by rw [c9 9 0 (by omega), z9, y32], fun j j1 j2 => ?_⟩
        rw [y32] at j2
        omega
