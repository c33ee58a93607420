/-! bits of an int; what served, openFrom, canBoth, excludedAt answer -/
def bt (x : Int) (k : Nat) : Bool := (iI x).toBitVec.getLsbD k
theorem bt_of (x : Int32) (k : Nat) : bt x.toInt k = x.toBitVec.getLsbD k := by unfold bt; rw [iI_of]
theorem bt_ext {a b : Int} (ha : SB a) (hb : SB b) (h : ∀ k, k < 32 → bt a k = bt b k) : a = b := by
  have e : (iI a).toBitVec = (iI b).toBitVec := BitVec.eq_of_getLsbD_eq (fun k hk => h k hk)
  have e2 : iI a = iI b := Int32.toBitVec_inj.mp e
  rw [← iI_toInt ha, ← iI_toInt hb, e2]
def bor (a b : Int) : Int := (iI a ||| iI b).toInt
def ban (a b : Int) : Int := (iI a &&& iI b).toInt
def bno (a : Int) : Int := (iI a ^^^ iI (-1)).toInt
def bsh (p : Int) : Int := (iI 1 <<< (iI p &&& 31)).toInt
theorem bt_or (a b : Int) (k : Nat) : bt (bor a b) k = (bt a k || bt b k) := by
  unfold bor
  rw [bt_of, Int32.toBitVec_or, BitVec.getLsbD_or]
  rfl
theorem bt_and (a b : Int) (k : Nat) : bt (ban a b) k = (bt a k && bt b k) := by
  unfold ban
  rw [bt_of, Int32.toBitVec_and, BitVec.getLsbD_and]
  rfl
theorem bt_no (a : Int) {k : Nat} (hk : k < 32) : bt (bno a) k = !bt a k := by
  unfold bno
  rw [bt_of, Int32.toBitVec_xor, BitVec.getLsbD_xor]
  have : (iI (-1)).toBitVec.getLsbD k = true := by
    have : ∀ j : Fin 32, (iI (-1)).toBitVec.getLsbD j.1 = true := by decide
    exact this ⟨k, hk⟩
  rw [this]
  cases h : (iI a).toBitVec.getLsbD k <;> simp [bt, h]
theorem bt_sh {p : Int} (hp : 0 ≤ p ∧ p < 12) {k : Nat} (hk : k < 32) : bt (bsh p) k = decide ((k : Int) = p) := by
  have key : ∀ (q : Fin 12) (j : Fin 32), bt (bsh (q.1 : Int)) j.1 = decide ((j.1 : Int) = (q.1 : Int)) := by decide
  have := key ⟨p.toNat, by omega⟩ ⟨k, hk⟩
  rw [show ((p.toNat : Nat) : Int) = p by omega] at this
  exact this
theorem bt_0 (k : Nat) : bt 0 k = false := by
  unfold bt
  show (0#32).getLsbD k = false
  exact BitVec.getLsbD_zero
/-- from bits to range -/
theorem bt_rg {a : Int} (ha : SB a) {n : Nat} (hn : n < 31) (h : ∀ k, n ≤ k → k < 32 → bt a k = false) : 0 ≤ a ∧ a < ((2 ^ n : Nat) : Int) := by
  have h1 : (iI a).toBitVec.toNat < 2 ^ n := by
    refine Nat.lt_pow_two_of_testBit _ (fun i hi => ?_)
    rw [BitVec.testBit_toNat]
    by_cases h2 : i < 32
    · exact h i hi h2
    · exact BitVec.getLsbD_of_ge _ _ (by omega)
  have h2 : 2 ^ n ≤ 2 ^ 30 := Nat.pow_le_pow_right (by decide) (by omega)
  have h3 : (iI a).toInt = ((iI a).toBitVec.toNat : Int) := by
    show (iI a).toBitVec.toInt = _
    exact BitVec.toInt_eq_toNat_of_lt (by omega)
  rw [iI_toInt ha] at h3
  omega
theorem bor_sb (a b : Int) : SB (bor a b) := SB_of _
theorem ban_sb (a b : Int) : SB (ban a b) := SB_of _
theorem bsh_sb (p : Int) : SB (bsh p) := SB_of _
theorem bt_up {a : Int} {n : Nat} (hn : n < 31) (h : 0 ≤ a ∧ a < ((2 ^ n : Nat) : Int)) (k : Nat) (hk : n ≤ k) : bt a k = false := by
  have h2 : 2 ^ n ≤ 2 ^ 30 := Nat.pow_le_pow_right (by decide) (by omega)
  have h1 : (iI a).toBitVec.toNat = a.toNat := by
    have e := iI_cl (z := a) ⟨by omega, by omega⟩
    have e2 : (iI a).toInt = a := iI_toInt ⟨by omega, by omega⟩
    have e3 : (iI a).toBitVec.toInt = a := e2
    rw [BitVec.toInt_eq_toNat_cond] at e3
    split at e3 <;> omega
  unfold bt
  rw [← BitVec.testBit_toNat, h1]
  refine Nat.testBit_lt_two_pow (Nat.lt_of_lt_of_le (show a.toNat < 2 ^ n by omega) (Nat.pow_le_pow_right (by decide) hk))
section FN
variable {ρ : rm} {τ : Int64} {Q : Option Value → mm → Prop}
/-- the class: a shop reached from a house -/
def svC (ρ : rm) (s l t : Int) : Int :=
  if ((t + ρ (17 + l.toNat) (ρ 32 s)) - ρ 10 (ρ 32 s)) % 1440 < ρ 33 s ∨ ρ 34 s ≤ ((t + ρ (17 + l.toNat) (ρ 32 s)) - ρ 10 (ρ 32 s)) % 1440 then (t + ρ (17 + l.toNat) (ρ 32 s)) + (ρ 33 s - ((t + ρ (17 + l.toNat) (ρ 32 s)) - ρ 10 (ρ 32 s)) % 1440) % 1440 else t + ρ (17 + l.toNat) (ρ 32 s)
theorem c_sv (hT : TI ρ) {s l t : Int} (hs : 0 ≤ s ∧ s < 6) (hl : 0 ≤ l ∧ l < 10) (ht : 0 ≤ t ∧ t ≤ 3000000) : G 60 0 [some (.ref 3), some (vI s), some (vI l), some (vI t)] [] (toM ρ τ) Q = Q (some (vI (svC ρ s l t))) (toM ρ τ) := by
  rw [s60 ρ τ s l t hT hs hl ht]
  unfold svC
  split
  · rename_i h1; rw [if_pos (Or.inl h1)]
  · rename_i h1
    split
    · rename_i h2; rw [if_pos (Or.inr h2)]
    · rename_i h2; rw [if_neg (fun z => z.elim h1 h2)]
theorem svC_bd (hT : TI ρ) {s l t : Int} (hl : 0 ≤ l ∧ l < 10) : t ≤ svC ρ s l t ∧ svC ρ s l t ≤ t + 1001439 := by
  have := TI.row hT (k := 17 + l.toNat) (by omega) (ρ 32 s)
  unfold svC
  split <;> omega
/-- the reference: a shop reached at t -/
def opF (O : Int → Int) (sh : Int → Int) (s t : Int) : Int :=
  if (t - O (sh (5 * s))) % 1440 < sh (5 * s + 1) ∨ sh (5 * s + 2) ≤ (t - O (sh (5 * s))) % 1440 then t + (sh (5 * s + 1) - (t - O (sh (5 * s))) % 1440) % 1440 else t
theorem opF_bd (O sh : Int → Int) (s t : Int) : t ≤ opF O sh s t ∧ opF O sh s t ≤ t + 1439 := by
  unfold opF
  split <;> omega
theorem m_op (hT : TI ρ) {s t : Int} (hs : 0 ≤ s ∧ s < 6) (ht : 0 ≤ t ∧ t ≤ 3000000) : G 163 0 [some (.ref 51), some (vI s), some (vI t)] [] (toM ρ τ) Q = Q (some (vI (opF (oS ρ) (ρ 56) s t))) (toM ρ τ) := by
  have t1 := T56a hT s
  have o1 := oS_rg hT (h := ρ 56 (5 * s)) (by omega)
  have t2 : 0 ≤ ρ 56 (5 * s + 1) := (hT.2 56 (5 * s + 1)).1
  rw [s163 ρ τ s t hT hs ht, tm_mod (by omega)]
  have e : Int.tmod (ρ 56 (5 * s + 1) - (t - oS ρ (ρ 56 (5 * s))) % 1440 + 1440) 1440 = (ρ 56 (5 * s + 1) - (t - oS ρ (ρ 56 (5 * s))) % 1440) % 1440 := by
    rw [Int.tmod_eq_emod_of_nonneg (by omega)]
    omega
  rw [e]
  unfold opF
  split
  · rename_i h1; rw [if_pos (Or.inl h1)]
  · rename_i h1
    split
    · rename_i h2; rw [if_pos (Or.inr h2)]
    · rename_i h2; rw [if_neg (fun z => z.elim h1 h2)]
theorem m_both (hT : TI ρ) {a x b y : Int} (ha : 0 ≤ a ∧ a < 10) (hx : 0 ≤ x ∧ x ≤ 1439) (hb : 0 ≤ b ∧ b < 10) (hy : 0 ≤ y ∧ y ≤ 1439) : G 174 0 [some (.ref 51), some (vI a), some (vI x), some (vI b), some (vI y)] [] (toM ρ τ) Q = Q (some (vI (tv (ρ 57 ((10 * a) + b) ≤ iab (x + oS ρ a - y - oS ρ b))))) (toM ρ τ) := by
  rw [s174 ρ τ a x b y hT ha hx hb hy]
  unfold iab
  split
  · split
    · rw [tv_f (by omega)]
    · rw [tv_t (by omega)]
  · split
    · rw [tv_f (by omega)]
    · rw [tv_t (by omega)]
/-- the class: who can't be beside this -/
def exF (ρ : rm) (a w j s : Int) : Int := if ρ (17 + a.toNat) (ρ 49 j) ≤ iab (w - ρ 50 j) then s else bor s (bsh (ρ 48 j))
def exS (ρ : rm) (a w : Int) : Int := fo (exF ρ a w) 0 (ρ 9 0).toNat 0
def exI (ρ : rm) (a w : Int) (i s : Int) : Prop := 0 ≤ i ∧ (0 ≤ s ∧ s < 64) ∧ ∀ k : Nat, k < 32 → (bt s k = true ↔ ∃ j, 0 ≤ j ∧ j < i ∧ iab (w - ρ 50 j) < ρ (17 + a.toNat) (ρ 49 j) ∧ ρ 48 j = k)
theorem xc_keep (hT : TI ρ) (a w : Int) : ∀ i s, i < ρ 9 0 → exI ρ a w i s → exI ρ a w (i + 1) (exF ρ a w i s) := by
  rintro i s h1 ⟨h2, h3, h4⟩
  have p1 : 0 ≤ ρ 48 i ∧ ρ 48 i ≤ 5 := hT.2 48 i
  unfold exF
  split
  · rename_i hc
    refine ⟨by omega, h3, fun k hk => (h4 k hk).trans ⟨?_, ?_⟩⟩
    · rintro ⟨j, j1, j2, j3, j4⟩
      exact ⟨j, j1, by omega, j3, j4⟩
    · rintro ⟨j, j1, j2, j3, j4⟩
      refine ⟨j, j1, ?_, j3, j4⟩
      by_cases e : j = i
      · rw [e] at j3; omega
      · omega
  · rename_i hc
    have key : ∀ k : Nat, k < 32 → (bt (bor s (bsh (ρ 48 i))) k = true ↔ ∃ j, 0 ≤ j ∧ j < i + 1 ∧ iab (w - ρ 50 j) < ρ (17 + a.toNat) (ρ 49 j) ∧ ρ 48 j = k) := by
      intro k hk
      rw [bt_or, bt_sh (by omega) hk, Bool.or_eq_true, h4 k hk, decide_eq_true_iff]
      constructor
      · rintro (⟨j, j1, j2, j3, j4⟩ | e)
        · exact ⟨j, j1, by omega, j3, j4⟩
        · exact ⟨i, h2, by omega, by omega, e.symm⟩
      · rintro ⟨j, j1, j2, j3, j4⟩
        by_cases e : j = i
        · rw [e] at j4; exact Or.inr j4.symm
        · exact Or.inl ⟨j, j1, by omega, j3, j4⟩
    refine ⟨by omega, bt_rg (bor_sb _ _) (n := 6) (by decide) (fun k h5 h6 => ?_), key⟩
    rw [bt_or, bt_sh (by omega) h6, bt_up (n := 6) (by decide) h3 k h5, Bool.false_or, decide_eq_false_iff_not]
    omega
theorem ex_0 (ρ : rm) (a w : Int) : exI ρ a w 0 0 := ⟨by omega, by omega, fun k hk => by
  rw [bt_0]
  constructor
  · intro z; cases z
  · rintro ⟨j, j1, j2, -⟩; omega⟩
theorem exS_I (hT : TI ρ) (a w : Int) : exI ρ a w (ρ 9 0) (exS ρ a w) := by
  have hn : 0 ≤ ρ 9 0 ∧ ρ 9 0 ≤ 12 := hT.2 9 0
  exact fo_inv (xc_keep hT a w) (ρ 9 0).toNat 0 0 (by omega) (ex_0 ρ a w)
theorem c_exc (hT : TI ρ) {a w : Int} (ha : 0 ≤ a ∧ a < 10) (hw : 0 ≤ w ∧ w ≤ 20000) : G 65 0 [some (.ref 9), some (vI a), some (vI w)] [] (toM ρ τ) Q = Q (some (vI (exS ρ a w))) (toM ρ τ) := by
  have hn : 0 ≤ ρ 9 0 ∧ ρ 9 0 ≤ 12 := hT.2 9 0
  rw [s65 ρ τ a w hT ha hw]
  refine lp (S := Int) (P := fun i s t => G 65 5 (some (.ref 9) :: some (vI a) :: some (vI w) :: some (vI s) :: some (vI i) :: t) [] (toM ρ τ) Q) (inv := exI ρ a w) (n := ρ 9 0) (f := exF ρ a w) ?_ (xc_keep hT a w) (ρ 9 0).toNat 0 0 [] (by omega) (ex_0 ρ a w) ?_
  · rintro i s t h1 ⟨h2, h3, h4⟩ H
    show G 65 5 (some (.ref 9) :: some (vI a) :: some (vI w) :: some (vI s) :: some (vI i) :: t) [] (toM ρ τ) Q = _
    rw [s65_5 ρ τ a w s i t hT ha hw ⟨by omega, by omega⟩ ⟨by omega, by omega⟩, if_neg (by omega)]
    split
    · rename_i hc; exact H _ _ (by unfold exF; rw [if_pos hc])
    · rename_i hc; exact H _ _ (by unfold exF; rw [if_neg hc]; rfl)
  · rintro ⟨h2, h3, h4⟩ t'
    show G 65 5 (some (.ref 9) :: some (vI a) :: some (vI w) :: some (vI (exS ρ a w)) :: some (vI (ρ 9 0)) :: t') [] (toM ρ τ) Q = _
    have h3' : 0 ≤ exS ρ a w ∧ exS ρ a w < 64 := h3
    rw [s65_5 ρ τ a w _ _ t' hT ha hw ⟨by omega, by omega⟩ ⟨by omega, by omega⟩, if_pos (by omega)]
end FN
