/-! calls without loops: both sides agree (wip/gen/gen_ag.py) -/
section AG2
variable {ρ : rm} {τ : Int64}
theorem RR.n (h : RR ρ) : ρ 1 1 = ρ 51 0 := h.2.1.1
theorem RR.nb (h : RR ρ) : 2 ≤ ρ 51 0 ∧ ρ 51 0 ≤ 10 := h.1.2 51 0
theorem RR.off (h : RR ρ) {a : Int} (h1 : 0 ≤ a) (h2 : a < ρ 51 0) : ρ 10 a = oS ρ a := h.2.1.2.2.2.2.2.2.1 a h1 h2
theorem RR.gr (h : RR ρ) {a b : Int} (h1 : 0 ≤ a ∧ a < ρ 51 0) (h2 : 0 ≤ b ∧ b < ρ 51 0) : ρ (17 + a.toNat) b = ρ 57 (10 * a + b) := by
  have e1 := (h.2.1.2.2.2.2.2.2.2.1 a b h1.1 h1.2 h2.1 h2.2).1
  have hn := h.nb
  dsimp only at e1
  rw [Int.min_eq_left (by omega)] at e1
  exact e1
theorem RR.sy (h : RR ρ) {a b : Int} (h1 : 0 ≤ a ∧ a < ρ 51 0) (h2 : 0 ≤ b ∧ b < ρ 51 0) : ρ 57 (10 * a + b) = ρ 57 (10 * b + a) := (h.2.1.2.2.2.2.2.2.2.1 a b h1.1 h1.2 h2.1 h2.2).2.1
theorem RR.d8 (h : RR ρ) {a b : Int} (h1 : 0 ≤ a ∧ a < ρ 51 0) (h2 : 0 ≤ b ∧ b < ρ 51 0) : ρ 57 (10 * a + b) ≤ 891 := (h.2.1.2.2.2.2.2.2.2.1 a b h1.1 h1.2 h2.1 h2.2).2.2
theorem RR.dg (h : RR ρ) {a : Int} (h1 : 0 ≤ a ∧ a < ρ 51 0) : ρ 57 (10 * a + a) = 0 := h.2.1.2.2.2.2.2.2.2.2 a h1.1 h1.2
theorem RR.D (h : RR ρ) : RD ρ := h.2.2.1
theorem RR.O (h : RR ρ) : RO ρ := h.2.2.2.1
theorem RR.S (h : RR ρ) : RS ρ := h.2.2.2.2.1
theorem RR.T (h : RR ρ) : RT ρ := h.2.2.2.2.2.1
theorem RR.W (h : RR ρ) : RW ρ := h.2.2.2.2.2.2.1
theorem RR.K (h : RR ρ) : RK ρ := h.2.2.2.2.2.2.2.1
theorem RR.B (h : RR ρ) : RB ρ := h.2.2.2.2.2.2.2.2.1
theorem RR.G (h : RR ρ) : RG ρ := h.2.2.2.2.2.2.2.2.2
theorem tm_mod {x : Int} (h : -144000 ≤ x) : Int.tmod (x + 144000) 1440 = x % 1440 := by
  rw [Int.tmod_eq_emod_of_nonneg (by omega)]
  omega
theorem tm_div {x : Int} (h : -144000 ≤ x) : Int.tdiv (x + 144000) 1440 = x / 1440 + 100 := by
  rw [Int.tdiv_eq_ediv_of_nonneg (by omega)]
  omega
theorem ag_byClocks (a b : Int) (ha : SB a) (hb : SB b) : Agree 88 144 [some (vI a), some (vI b)] := by
  intro ρ τ h
  have hT := h.1
  have n1 := h.n
  have hn := h.nb
  rw [s88 ρ τ a b hT ha hb]
  split
  · rename_i h1
    split
    · rename_i h2
      have h3 := span_bd hT a b (by omega)
      refine ⟨_, ⟨by omega, by omega⟩, rfl, ?_⟩
      rw [s144 ρ τ a b hT ha hb, if_pos (by omega), if_pos (by omega)]
      have e1 := h.gr (a := a) (b := b) (by omega) (by omega)
      have e2 := h.off (a := a) (by omega) (by omega)
      have e3 := h.off (a := b) (by omega) (by omega)
      exact ag_end (by omega) h
    · refine ⟨_, by decide, rfl, ?_⟩
      rw [s144 ρ τ a b hT ha hb, if_pos (by omega), if_neg (by omega)]
      exact ag_end rfl h
  · refine ⟨_, by decide, rfl, ?_⟩
    rw [s144 ρ τ a b hT ha hb, if_neg (by omega)]
    exact ag_end rfl h
theorem ag_shows (a b d : Int) (ha : SB a) (hb : SB b) (hd : SB d) : Agree 87 142 [some (vI a), some (vI b), some (vI d)] := by
  intro ρ τ h
  have hT := h.1
  have n1 := h.n
  have hn := h.nb
  rw [s87 ρ τ a b d hT ha hb hd]
  split
  · rename_i h1
    have e2 := h.off (a := a) (by omega) (by omega)
    have e3 := oS_rg hT (h := a) (by omega)
    split
    · refine ⟨_, by decide, rfl, ?_⟩
      rw [s142 ρ τ a b d hT ha hb hd, if_pos (by omega), if_neg (by omega)]
      exact ag_end rfl h
    · split
      · refine ⟨_, by decide, rfl, ?_⟩
        rw [s142 ρ τ a b d hT ha hb hd, if_pos (by omega), if_neg (by omega)]
        exact ag_end rfl h
      · split
        · refine ⟨_, by decide, rfl, ?_⟩
          rw [s142 ρ τ a b d hT ha hb hd, if_pos (by omega), if_pos (by omega), if_neg (by omega), if_neg (by omega)]
          exact ag_end rfl h
        · split
          · split
            · refine ⟨_, ⟨by omega, by omega⟩, rfl, ?_⟩
              rw [s142 ρ τ a b d hT ha hb hd, if_pos (by omega), if_pos (by omega), if_pos (by omega), tm_mod (by omega), e2]
              exact ag_end rfl h
            · refine ⟨_, ⟨by omega, by omega⟩, rfl, ?_⟩
              rw [s142 ρ τ a b d hT ha hb hd, if_pos (by omega), if_pos (by omega), if_neg (by omega), if_pos (by omega), tm_div (by omega), e2]
              exact ag_end rfl h
          · refine ⟨_, by decide, rfl, ?_⟩
            rw [s142 ρ τ a b d hT ha hb hd, if_pos (by omega), if_pos (by omega), if_neg (by omega), if_neg (by omega)]
            exact ag_end rfl h
  · refine ⟨_, by decide, rfl, ?_⟩
    rw [s142 ρ τ a b d hT ha hb hd, if_neg (by omega)]
    exact ag_end rfl h
theorem ag_here (a : Int) (ha : SB a) : Agree 93 150 [some (vI a)] := by
  intro ρ τ h
  have hT := h.1
  have n1 := h.n
  have hn := h.nb
  obtain ⟨w1, w2, w3, -⟩ := h.W
  have b1 : 0 ≤ ρ 6 0 ∧ ρ 6 0 ≤ 9 := hT.2 6 0
  have b2 : 0 ≤ ρ 6 1 ∧ ρ 6 1 ≤ 99999 := hT.2 6 1
  have e2 := h.off (a := ρ 51 24) (by omega) (by omega)
  have e3 := oS_rg hT (h := ρ 51 24) (by omega)
  rw [s93 ρ τ a hT ha]
  split
  · refine ⟨_, ⟨by omega, by omega⟩, rfl, ?_⟩
    rw [s150 ρ τ a hT ha, if_pos (by omega)]
    exact ag_end w1.symm h
  · split
    · refine ⟨_, ⟨by omega, by omega⟩, rfl, ?_⟩
      rw [s150 ρ τ a hT ha, if_neg (by omega), if_pos (by omega)]
      exact ag_end w3.symm h
    · split
      · refine ⟨_, ⟨by omega, by omega⟩, rfl, ?_⟩
        rw [s150 ρ τ a hT ha, if_neg (by omega), if_neg (by omega), if_pos (by omega), tm_mod (by omega), w1, w3, e2]
        exact ag_end rfl h
      · split
        · have b3 : 0 ≤ ρ 10 (ρ 6 0) ∧ ρ 10 (ρ 6 0) ≤ 8991 := hT.2 10 (ρ 6 0)
          refine ⟨_, ⟨by omega, by omega⟩, rfl, ?_⟩
          rw [s150 ρ τ a hT ha, if_neg (by omega), if_neg (by omega), if_neg (by omega), if_pos (by omega), tm_div (by omega), w1, w3, e2]
          exact ag_end rfl h
        · refine ⟨_, by decide, rfl, ?_⟩
          rw [s150 ρ τ a hT ha, if_neg (by omega), if_neg (by omega), if_neg (by omega), if_neg (by omega)]
          exact ag_end rfl h
theorem ag_count (a : Int) (ha : SB a) : Agree 112 179 [some (vI a)] := by
  intro ρ τ h
  have hT := h.1
  have e0 := h.n
  have e1 : ρ 1 2 = ρ 51 3 := h.2.1.2.1
  have e2 : ρ 2 4 = ρ 51 5 := h.D.1
  have e3 : ρ 3 0 = ρ 51 7 := h.S.1
  have e4 : ρ 7 0 = ρ 51 28 := h.K.1
  have e5 : ρ 8 0 = ρ 51 30 := h.B.1
  have e6 : ρ 9 0 = ρ 51 32 := h.G.1
  have e7 : ρ 4 1 = ρ 51 10 := h.T.1
  have q0 := hT.1 1 1 (by decide)
  have q1 := hT.1 1 2 (by decide)
  have q2 := hT.1 2 4 (by decide)
  have q3 := hT.1 3 0 (by decide)
  have q4 := hT.1 7 0 (by decide)
  have q5 := hT.1 8 0 (by decide)
  have q6 := hT.1 9 0 (by decide)
  have q7 := hT.1 4 1 (by decide)
  rw [s112 ρ τ a hT ha]
  (repeat' split) <;> (refine ⟨_, ⟨by omega, by omega⟩, rfl, ?_⟩; rw [s179 ρ τ a hT ha]; (repeat' split) <;> first | (exfalso; omega) | exact ag_end (by omega) h)
theorem ag_deed (a b : Int) (ha : SB a) (hb : SB b) : Agree 90 147 [some (vI a), some (vI b)] := by
  intro ρ τ h
  have hT := h.1
  have n1 := h.n
  have hn := h.nb
  obtain ⟨d1, d2⟩ := h.D
  have q1 := hT.1 27 a (by decide)
  have q2 := hT.1 28 a (by decide)
  have q3 := hT.1 29 a (by decide)
  have q4 := hT.1 10 (ρ 27 a) (by decide)
  rw [s90 ρ τ a b hT ha hb]
  split
  · rename_i h1
    obtain ⟨d3, d4, d5, d6⟩ := d2 a (by omega) (by omega)
    have t1 := T55a hT a
    have e2 := h.off (a := ρ 55 (3 * a)) (by omega) (by omega)
    split
    · rename_i hb0
      refine ⟨_, ⟨by omega, by omega⟩, rfl, ?_⟩
      rw [s147 ρ τ a b hT ha hb, if_pos (by omega), if_pos (by omega), hb0, Int.add_zero]
      exact ag_end d3.symm h
    · split
      · rename_i hb0
        refine ⟨_, ⟨by omega, by omega⟩, rfl, ?_⟩
        rw [s147 ρ τ a b hT ha hb, if_pos (by omega), if_pos (by omega), hb0]
        exact ag_end d4.symm h
      · split
        · rename_i hb0
          refine ⟨_, ⟨by omega, by omega⟩, rfl, ?_⟩
          rw [s147 ρ τ a b hT ha hb, if_pos (by omega), if_pos (by omega), hb0]
          exact ag_end d5.symm h
        · split
          · refine ⟨_, ⟨by omega, by omega⟩, rfl, ?_⟩
            rw [s147 ρ τ a b hT ha hb, if_pos (by omega), if_neg (by omega), if_pos (by omega)]
            refine ag_end ?_ h
            rw [d3, d4, e2]
            omega
          · refine ⟨_, by decide, rfl, ?_⟩
            rw [s147 ρ τ a b hT ha hb, if_pos (by omega), if_neg (by omega), if_neg (by omega)]
            exact ag_end rfl h
  · refine ⟨_, by decide, rfl, ?_⟩
    rw [s147 ρ τ a b hT ha hb, if_neg (by omega)]
    exact ag_end rfl h
theorem ag_behind (a b : Int) (ha : SB a) (hb : SB b) : Agree 97 157 [some (vI a), some (vI b)] := by
  intro ρ τ h
  have hT := h.1
  have n1 := h.n
  have hn := h.nb
  obtain ⟨d1, d2⟩ := h.D
  rw [s97 ρ τ a b hT ha hb]
  by_cases h1 : 0 ≤ a ∧ a < ρ 2 4
  · rw [if_pos h1]
    by_cases h2 : 0 ≤ b ∧ b < ρ 2 4
    · rw [if_pos h2]
      obtain ⟨d3, d4, d5, d6⟩ := d2 a (by omega) (by omega)
      obtain ⟨c3, c4, c5, c6⟩ := d2 b (by omega) (by omega)
      have t1 := T55a hT a
      have t2 := T55a hT b
      have e2 := h.off (a := ρ 55 (3 * a)) (by omega) (by omega)
      have e3 := h.off (a := ρ 55 (3 * b)) (by omega) (by omega)
      have e4 := h.gr (a := ρ 55 (3 * a)) (b := ρ 55 (3 * b)) (by omega) (by omega)
      have q1 := oS_rg hT (h := ρ 55 (3 * a)) (by omega)
      have q2 := oS_rg hT (h := ρ 55 (3 * b)) (by omega)
      have q3 := hT.1 55 (3 * a + 1) (by decide)
      have q4 := hT.1 55 (3 * b + 1) (by decide)
      have q5 := hT.1 55 (3 * a + 2) (by decide)
      have q6 := hT.1 57 (10 * ρ 55 (3 * a) + ρ 55 (3 * b)) (by decide)
      rw [d3, d4, d5, c3, c4, e2, e3, e4]
      (repeat' split) <;> (refine ⟨_, ⟨by omega, by omega⟩, rfl, ?_⟩; rw [s157 ρ τ a b hT ha hb, if_pos (by omega), if_pos (by omega)]; (repeat' split) <;> first | (exfalso; omega) | exact ag_end (by omega) h)
    · rw [if_neg h2]
      refine ⟨_, by decide, rfl, ?_⟩
      rw [s157 ρ τ a b hT ha hb, if_pos (by omega), if_neg (by omega)]
      exact ag_end rfl h
  · rw [if_neg h1]
    refine ⟨_, by decide, rfl, ?_⟩
    rw [s157 ρ τ a b hT ha hb, if_neg (by omega)]
    exact ag_end rfl h
end AG2
