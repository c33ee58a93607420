/-! THE RELATION between the class's cells and the reference's -/
def RHo (n n' w w' : Int) (of bh wy fr to_ ov lt rd wl dm : Int → Int) (gr : Int → Int → Int) : Prop :=
  n = n' ∧ w = w' ∧ bh 0 = 0 ∧ (∀ h, 1 ≤ h → h < 10 → bh h = lt h) ∧ (∀ h, 0 ≤ h → h < 10 → wy h = rd h) ∧
  (∀ k, 0 ≤ k → k < w' → fr k = wl (3 * k) ∧ to_ k = wl (3 * k + 1) ∧ ov k = wl (3 * k + 2) ∧ wl (3 * k) < n' ∧ wl (3 * k + 1) < n' ∧ wl (3 * k) ≠ wl (3 * k + 1)) ∧
  (∀ h, 0 ≤ h → h < n' → of h = sumR lt 1 h.toNat) ∧ (∀ a b, 0 ≤ a → a < n' → 0 ≤ b → b < n' → gr a b = dm (10 * a + b) ∧ dm (10 * a + b) = dm (10 * b + a) ∧ dm (10 * a + b) ≤ 891) ∧ (∀ a, 0 ≤ a → a < n' → dm (10 * a + a) = 0)
def RH (ρ : rm) : Prop := RHo (ρ 1 1) (ρ 51 0) (ρ 1 2) (ρ 51 3) (ρ 10) (ρ 11) (ρ 12) (ρ 13) (ρ 14) (ρ 15) (ρ 52) (ρ 53) (ρ 54) (ρ 57) (fun a b => ρ (17 + (min a 9).toNat) b)
def RDo (n d d' : Int) (hs ck mn de : Int → Int) : Prop := d = d' ∧ ∀ i, 0 ≤ i → i < d' → hs i = de (3 * i) ∧ ck i = de (3 * i + 1) ∧ mn i = de (3 * i + 2) ∧ de (3 * i) < n
def RD (ρ : rm) : Prop := RDo (ρ 51 0) (ρ 2 4) (ρ 51 5) (ρ 27) (ρ 28) (ρ 29) (ρ 55)
/-- the deeds in order: byTime is sorted, each deed once -/
def ROo (d : Int) (by_ hs ck of : Int → Int) : Prop := (∀ i, 0 ≤ i → i < d → 0 ≤ by_ i ∧ by_ i < d) ∧ ∀ i j, 0 ≤ i → i < j → j < d → (of (hs (by_ i)) + ck (by_ i) < of (hs (by_ j)) + ck (by_ j) ∨ of (hs (by_ i)) + ck (by_ i) = of (hs (by_ j)) + ck (by_ j) ∧ by_ i < by_ j)
def RO (ρ : rm) : Prop := ROo (ρ 2 4) (ρ 30) (ρ 27) (ρ 28) (ρ 10)
def RSo (n s s' : Int) (hs op cl se bu sh : Int → Int) : Prop := s = s' ∧ ∀ i, 0 ≤ i → i < s' → hs i = sh (5 * i) ∧ op i = sh (5 * i + 1) ∧ cl i = sh (5 * i + 2) ∧ se i = sh (5 * i + 3) ∧ bu i = sh (5 * i + 4) ∧ sh (5 * i) < n
def RS (ρ : rm) : Prop := RSo (ρ 51 0) (ρ 3 0) (ρ 51 7) (ρ 32) (ρ 33) (ρ 34) (ρ 35) (ρ 36) (ρ 56)
def RTo (l l' : Int) (b t : Int → Int) : Prop := l = l' ∧ ∀ j, 0 ≤ j → j < l' → b j = t j
def RT (ρ : rm) : Prop := RTo (ρ 4 1) (ρ 51 10) (ρ 37) (ρ 58)
def RWo (n st st' ti ti' : Int) (kh kt kp ik : Int → Int) : Prop := st = st' ∧ st' < n ∧ ti = ti' ∧ ∀ k, 0 ≤ k → k < 2 → (kh k = -1 ↔ ik k = 0) ∧ (ik k ≠ 0 → kh k = kp (2 * k) ∧ kt k = kp (2 * k + 1) ∧ kp (2 * k) < n)
def RW (ρ : rm) : Prop := RWo (ρ 51 0) (ρ 6 0) (ρ 51 24) (ρ 6 1) (ρ 51 25) (ρ 40) (ρ 41) (ρ 60) (ρ 61)
def RKo (n s s' : Int) (r t : Int → Int) : Prop := s = s' ∧ ∀ k, 0 ≤ k → k < s' → r k = t k ∧ t k < n
def RK (ρ : rm) : Prop := RKo (ρ 51 0) (ρ 7 0) (ρ 51 28) (ρ 42) (ρ 62)
def RBo (n b b' : Int) (f s ap be lt : Int → Int) : Prop := b = b' ∧ ∀ k, 0 ≤ k → k < b' → f k = be (4 * k) ∧ s k = be (4 * k + 2) ∧ be (4 * k) < n ∧ be (4 * k + 2) < n ∧ be (4 * k) ≠ be (4 * k + 2) ∧
  ap k = (be (4 * k + 1) + sumR lt 1 (be (4 * k)).toNat - be (4 * k + 3) - sumR lt 1 (be (4 * k + 2)).toNat) % 1440
def RB (ρ : rm) : Prop := RBo (ρ 51 0) (ρ 8 0) (ρ 51 30) (ρ 43) (ρ 44) (ρ 45) (ρ 63) (ρ 52)
def RGo (n s s' : Int) (pe ho ti si lt : Int → Int) : Prop := s = s' ∧ ∀ k, 0 ≤ k → k < s' → pe k = si (3 * k) ∧ ho k = si (3 * k + 1) ∧ si (3 * k + 1) < n ∧ ti k = sumR lt 1 (si (3 * k + 1)).toNat + si (3 * k + 2)
def RG (ρ : rm) : Prop := RGo (ρ 51 0) (ρ 9 0) (ρ 51 32) (ρ 48) (ρ 49) (ρ 50) (ρ 64) (ρ 52)
def RR (ρ : rm) : Prop := TI ρ ∧ RH ρ ∧ RD ρ ∧ RO ρ ∧ RS ρ ∧ RT ρ ∧ RW ρ ∧ RK ρ ∧ RB ρ ∧ RG ρ
theorem rup_fn {ρ : rm} {k a : Nat} {i x : Int} (h : a ≠ k) : rup ρ k i x a = ρ a := funext fun j => rup_ne ρ i x j h
theorem rup_sl {ρ : rm} {k : Nat} {i j x : Int} (h : j ≠ i) : rup ρ k i x k j = ρ k j := rup_ni ρ k k x h
/-- the two sides agree on a call -/
def Agree (yc ym : Nat) (as : List (Option Value)) : Prop := ∀ (ρ : rm) (τ : Int64), RR ρ → G yc 0 (some (.ref 0) :: as) [] (toM ρ τ) (fun v μ => ∃ r, SB r ∧ v = some (vI r) ∧ G ym 0 (some (.ref 51) :: as) [] μ (fun v' μ' => v' = some (vI r) ∧ ∃ ρ2 τ2, μ' = toM ρ2 τ2 ∧ RR ρ2))
theorem vI_eq {a b : Int} (h : a = b) : (some (vI a) : Option Value) = some (vI b) := by rw [h]
section AG
/-- a step in which nothing changes: answers of both sides are the same number -/
theorem ag_end {ρ : rm} {τ : Int64} {a b : Int} (h : a = b) (hR : RR ρ) : some (vI a) = some (vI b) ∧ ∃ ρ2 τ2, toM ρ τ = toM ρ2 τ2 ∧ RR ρ2 := ⟨vI_eq h, ρ, τ, rfl, hR⟩
theorem ag_off (a : Int) (ha : SB a) : Agree 85 138 [some (vI a)] := by
  intro ρ τ h
  have hT := h.1
  obtain ⟨n1, -, -, -, -, -, o1, -⟩ := h.2.1
  have hn : 2 ≤ ρ 51 0 ∧ ρ 51 0 ≤ 10 := hT.2 51 0
  rw [s85 ρ τ a hT ha]
  split
  · rename_i h1
    have h2 : 0 ≤ ρ 10 a ∧ ρ 10 a ≤ 8991 := hT.2 10 a
    refine ⟨_, ⟨by omega, by omega⟩, rfl, ?_⟩
    rw [s138 ρ τ a hT ha, if_pos (by omega)]
    exact ag_end (o1 a (by omega) (by omega)).symm h
  · refine ⟨_, by decide, rfl, ?_⟩
    rw [s138 ρ τ a hT ha, if_neg (by omega)]
    exact ag_end rfl h
theorem ag_far (a b : Int) (ha : SB a) (hb : SB b) : Agree 86 139 [some (vI a), some (vI b)] := by
  intro ρ τ h
  have hT := h.1
  obtain ⟨n1, -, -, -, -, -, -, o1, -⟩ := h.2.1
  have hn : 2 ≤ ρ 51 0 ∧ ρ 51 0 ≤ 10 := hT.2 51 0
  rw [s86 ρ τ a b hT ha hb]
  split
  · rename_i h1
    split
    · rename_i h2
      have h3 := TI.row hT (k := 17 + a.toNat) (by omega) b
      refine ⟨_, ⟨by omega, by omega⟩, rfl, ?_⟩
      rw [s139 ρ τ a b hT ha hb, if_pos (by omega), if_pos (by omega)]
      have e1 := (o1 a b (by omega) (by omega) (by omega) (by omega)).1
      dsimp only at e1
      rw [Int.min_eq_left (by omega)] at e1
      exact ag_end e1.symm h
    · refine ⟨_, by decide, rfl, ?_⟩
      rw [s139 ρ τ a b hT ha hb, if_pos (by omega), if_neg (by omega)]
      exact ag_end rfl h
  · refine ⟨_, by decide, rfl, ?_⟩
    rw [s139 ρ τ a b hT ha hb, if_neg (by omega)]
    exact ag_end rfl h
end AG
