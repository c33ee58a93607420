/-! leaves: what the small methods answer -/
theorem xor_sg (x y : Int32) (hy : 0 ≤ y.toInt) : 0 ≤ (x ^^^ y).toInt ↔ 0 ≤ x.toInt := by
  have key : ∀ z : Int32, 0 ≤ z.toInt ↔ z.toBitVec.msb = false := fun z => by
    rw [BitVec.msb_eq_toInt]
    show 0 ≤ z.toBitVec.toInt ↔ _
    simp
  rw [key] at hy
  rw [key, key, Int32.toBitVec_xor, BitVec.msb_xor, hy, Bool.xor_false]
theorem xor_sg' {a : Int} (h : SB a) : 0 ≤ (iI a ^^^ iI 1440).toInt ↔ 0 ≤ a := by
  rw [xor_sg _ _ (by decide), iI_toInt h]
theorem BM_up {ρ : rm} (h : BM ρ) (k : Nat) (i : Int) {x : Int} (hx : -2000000 ≤ x ∧ x ≤ 2000000) : BM (rup ρ k i x) := by
  intro a j ha
  unfold rup
  split
  · exact hx
  · exact h a j ha
theorem rup_same (ρ : rm) (k : Nat) (i x : Int) : rup ρ k i x k i = x := if_pos ⟨rfl, rfl⟩
theorem rup_ne (ρ : rm) {k a : Nat} (i x j : Int) (h : a ≠ k) : rup ρ k i x a j = ρ a j := if_neg (fun z => h z.1)
theorem rup_ni (ρ : rm) (k a : Nat) {i j : Int} (x : Int) (h : j ≠ i) : rup ρ k i x a j = ρ a j := if_neg (fun z => h z.2)
section LEAF
variable {Q : Option Value → mm → Prop} {ρ : rm} {τ : Int64}
/-- a truth as a number -/
def tv (p : Prop) [Decidable p] : Int := if p then 1 else 0
theorem tv_t {p : Prop} [Decidable p] (h : p) : tv p = 1 := if_pos h
theorem tv_f {p : Prop} [Decidable p] (h : ¬ p) : tv p = 0 := if_neg h
theorem tv_01 (p : Prop) [Decidable p] : tv p = 0 ∨ tv p = 1 := by unfold tv; split <;> simp
theorem tv_sm (p : Prop) [Decidable p] : SM (tv p) := by unfold tv; split <;> decide
theorem tv_0 (p : Prop) [Decidable p] : tv p = 0 ↔ ¬ p := by unfold tv; split <;> simp_all
theorem tv_or {p X : Prop} [Decidable p] (h : p → X) : tv p = 0 ∨ X := by
  by_cases z : p
  · exact Or.inr (h z)
  · exact Or.inl (tv_f z)
theorem c_min (hB : BM ρ) {a b : Int} (ha : SB a) (hb : SB b) : G 185 0 [some (vI a), some (vI b)] [] (toM ρ τ) Q = Q (some (vI (min a b))) (toM ρ τ) := by
  rw [b185_0 ρ τ a b hB ha hb]
  split
  · rw [Int.min_eq_right (by omega)]
  · rw [Int.min_eq_left (by omega)]
theorem c_max (hB : BM ρ) {a b : Int} (ha : SB a) (hb : SB b) : G 184 0 [some (vI a), some (vI b)] [] (toM ρ τ) Q = Q (some (vI (max a b))) (toM ρ τ) := by
  rw [b184_0 ρ τ a b hB ha hb]
  split
  · rw [Int.max_eq_right (by omega)]
  · rw [Int.max_eq_left (by omega)]
/-- without sign -/
def iab (a : Int) : Int := if 0 ≤ a then a else -a
theorem c_abs (hB : BM ρ) {a : Int} (ha : SB a) : G 183 0 [some (vI a)] [] (toM ρ τ) Q = Q (some (vI (iab a))) (toM ρ τ) := by
  rw [b183_0 ρ τ a hB ha]
  unfold iab
  split <;> rfl
theorem c_fmod (hB : BM ρ) {a : Int} (ha : SM a) : G 182 0 [some (vI a), some (vI 1440)] [] (toM ρ τ) Q = Q (some (vI (a % 1440))) (toM ρ τ) := by
  rw [b182_0 ρ τ a hB ha]
  have h1 : 0 ≤ (iI a ^^^ iI 1440).toInt ↔ 0 ≤ a := xor_sg' ⟨by omega, by omega⟩
  by_cases h : 0 ≤ a
  · rw [if_pos (h1.mpr h), Int.tmod_eq_emod_of_nonneg h]
  · rw [if_neg (fun z => h (h1.mp z))]
    have h2 : Int.tmod a 1440 = -((-a) % 1440) := by
      rw [← Int.tmod_eq_emod_of_nonneg (by omega), Int.neg_tmod, Int.neg_neg]
    split
    · rename_i h3
      rw [h3]
      have : a % 1440 = 0 := by omega
      rw [this]
    · rename_i h3
      have : Int.tmod a 1440 + 1440 = a % 1440 := by omega
      rw [this]
theorem c_fdiv (hB : BM ρ) {a : Int} (ha : SM a) : G 181 0 [some (vI a), some (vI 1440)] [] (toM ρ τ) Q = Q (some (vI (a / 1440))) (toM ρ τ) := by
  rw [b181_0 ρ τ a hB ha]
  have h1 : 0 ≤ (iI a ^^^ iI 1440).toInt ↔ 0 ≤ a := xor_sg' ⟨by omega, by omega⟩
  by_cases h : 0 ≤ a
  · rw [if_pos (h1.mpr h), Int.tdiv_eq_ediv_of_nonneg h]
  · rw [if_neg (fun z => h (h1.mp z))]
    have h2 : Int.tdiv a 1440 = -((-a) / 1440) := by
      rw [← Int.tdiv_eq_ediv_of_nonneg (by omega), Int.neg_tdiv, Int.neg_neg]
    split
    · rename_i h3
      have : a / 1440 = Int.tdiv a 1440 := by omega
      rw [this]
    · rename_i h3
      have : Int.tdiv a 1440 - 1 = a / 1440 := by omega
      rw [this]
/-! the class: houses -/
theorem c_has (hB : BM ρ) {h : Int} (hs : SB h) : G 32 0 [some (.ref 1), some (vI h)] [] (toM ρ τ) Q = Q (some (vI (tv (0 ≤ h ∧ h < ρ 1 1)))) (toM ρ τ) := by
  rw [b32_0 ρ τ h hB hs]
  split
  · rw [tv_f (by omega)]
  · split
    · rw [tv_f (by omega)]
    · rw [tv_t (by omega)]
theorem c_dist (hB : BM ρ) {a b : Int} (ha : 0 ≤ a ∧ a < 10) (hb : 0 ≤ b ∧ b < 10) : G 33 0 [some (.ref 1), some (vI a), some (vI b)] [] (toM ρ τ) Q = Q (some (vI (ρ (17 + a.toNat) b))) (toM ρ τ) := by
  rw [b33_0 ρ τ a b hB ⟨by omega, by omega⟩ ⟨by omega, by omega⟩, if_pos ha, if_pos hb]
theorem c_clock (hB : BM ρ) {a t : Int} (ha : 0 ≤ a ∧ a < 10) (ht : -5000000 ≤ t ∧ t ≤ 5000000) : G 34 0 [some (.ref 1), some (vI a), some (vI t)] [] (toM ρ τ) Q = Q (some (vI ((t - ρ 10 a) % 1440))) (toM ρ τ) := by
  have h1 := hB 10 a (by decide)
  rw [b34_0 ρ τ a t hB ⟨by omega, by omega⟩ ⟨by omega, by omega⟩, if_pos ha, c_fmod hB ⟨by omega, by omega⟩, b34_14 ρ τ a t [] _ hB ⟨by omega, by omega⟩ ⟨by omega, by omega⟩ ⟨by omega, by omega⟩]
theorem c_date (hB : BM ρ) {a t : Int} (ha : 0 ≤ a ∧ a < 10) (ht : -5000000 ≤ t ∧ t ≤ 5000000) : G 35 0 [some (.ref 1), some (vI a), some (vI t)] [] (toM ρ τ) Q = Q (some (vI ((t - ρ 10 a) / 1440))) (toM ρ τ) := by
  have h1 := hB 10 a (by decide)
  rw [b35_0 ρ τ a t hB ⟨by omega, by omega⟩ ⟨by omega, by omega⟩, if_pos ha, c_fdiv hB ⟨by omega, by omega⟩, b35_14 ρ τ a t [] _ hB ⟨by omega, by omega⟩ ⟨by omega, by omega⟩ ⟨by omega, by omega⟩]
theorem c_true (hB : BM ρ) {a t : Int} (ha : 0 ≤ a ∧ a < 10) (ht : SM t) : G 36 0 [some (.ref 1), some (vI a), some (vI t)] [] (toM ρ τ) Q = Q (some (vI (ρ 10 a + t))) (toM ρ τ) := by
  rw [b36_0 ρ τ a t hB ⟨by omega, by omega⟩ ht, if_pos ha]
theorem c_span (hB : BM ρ) {a b : Int} (ha : 0 ≤ a ∧ a < 10) (hb : 0 ≤ b ∧ b < 10) : G 37 0 [some (.ref 1), some (vI a), some (vI b)] [] (toM ρ τ) Q = Q (some (vI (ρ (17 + a.toNat) b - (ρ 10 b - ρ 10 a)))) (toM ρ τ) := by
  rw [b37_0 ρ τ a b hB ⟨by omega, by omega⟩ ⟨by omega, by omega⟩, if_pos ha, if_pos hb, if_pos hb, if_pos ha]
/-! the reference -/
theorem m_in (hB : BM ρ) {v a b : Int} (hv : SB v) (ha : SB a) (hb : SB b) : G 117 0 [some (vI v), some (vI a), some (vI b)] [] (toM ρ τ) Q = Q (some (vI (tv (a ≤ v ∧ v ≤ b)))) (toM ρ τ) := by
  rw [b117_0 ρ τ v a b hB hv ha hb]
  split
  · rw [tv_f (by omega)]
  · split
    · rw [tv_f (by omega)]
    · rw [tv_t (by omega)]
theorem m_isHouse (hB : BM ρ) {h : Int} (hs : SB h) : G 119 0 [some (.ref 51), some (vI h)] [] (toM ρ τ) Q = Q (some (vI (tv (0 ≤ h ∧ h ≤ ρ 51 0 - 1)))) (toM ρ τ) := by
  have h1 := hB 51 0 (by decide)
  rw [b119_0 ρ τ h hB hs, m_in hB hs (by decide) ⟨by omega, by omega⟩, b119_11 ρ τ h [] _ hB hs (tv_or (fun z => ⟨by omega, by omega⟩)) (tv_sm _) (tv_01 _)]
theorem m_isDeed (hB : BM ρ) {h : Int} (hs : SB h) : G 120 0 [some (.ref 51), some (vI h)] [] (toM ρ τ) Q = Q (some (vI (tv (0 ≤ h ∧ h ≤ ρ 51 5 - 1)))) (toM ρ τ) := by
  have h1 := hB 51 5 (by decide)
  rw [b120_0 ρ τ h hB hs, m_in hB hs (by decide) ⟨by omega, by omega⟩, b120_11 ρ τ h [] _ hB hs (tv_or (fun z => ⟨by omega, by omega⟩)) (tv_sm _) (tv_01 _)]
/-- sums: f k + f (k + 1) + .. (d of them) -/
def sumR (f : Int → Int) : Int → Nat → Int
  | _, 0 => 0
  | k, d + 1 => f k + sumR f (k + 1) d
theorem sumR_bd {f : Int → Int} {B : Int} (hf : ∀ j, -B ≤ f j ∧ f j ≤ B) (hB : 0 ≤ B) : ∀ (d : Nat) (k : Int), -(B * d) ≤ sumR f k d ∧ sumR f k d ≤ B * d
  | 0, k => by simp [sumR]
  | d + 1, k => by
    have h1 := sumR_bd hf hB d (k + 1)
    have h2 := hf k
    simp only [sumR]
    have h3 : B * ((d + 1 : Nat) : Int) = B * d + B := by rw [Int.natCast_add, Int.mul_add]; simp
    omega
theorem sumR_snoc (f : Int → Int) : ∀ (d : Nat) (k : Int), sumR f k (d + 1) = sumR f k d + f (k + d)
  | 0, k => by simp [sumR]
  | d + 1, k => by
    have h := sumR_snoc f d (k + 1)
    rw [sumR, h, sumR, show k + 1 + (d : Int) = k + ((d + 1 : Nat) : Int) by omega]
    omega
/-- OFF by the reference's numbers -/
def oS (ρ : rm) (h : Int) : Int := sumR (ρ 52) 1 h.toNat
theorem m_off_loop (hB : BM ρ) {h : Int} (hh : 0 ≤ h ∧ h < 10) : ∀ (d : Nat) (k v : Int) (t : List (Option Value)), 1 ≤ k → k + d = h + 1 → -2000000 * k ≤ v ∧ v ≤ 2000000 * k → G 137 4 (some (.ref 51) :: some (vI h) :: some (vI v) :: some (vI k) :: t) [] (toM ρ τ) Q = Q (some (vI (v + sumR (ρ 52) k d))) (toM ρ τ)
  | 0, k, v, t, h1, h2, h3 => by
    rw [b137_4 ρ τ h v k t hB ⟨by omega, by omega⟩ ⟨by omega, by omega⟩ ⟨by omega, by omega⟩, if_pos (by omega)]
    simp [sumR]
  | d + 1, k, v, t, h1, h2, h3 => by
    have h4 := hB 52 k (by decide)
    rw [b137_4 ρ τ h v k t hB ⟨by omega, by omega⟩ ⟨by omega, by omega⟩ ⟨by omega, by omega⟩, if_neg (by omega), if_pos (by omega), m_off_loop hB hh d (k + 1) (v + ρ 52 k) t (by omega) (by omega) (by omega)]
    simp only [sumR]
    rw [Int.add_assoc]
theorem m_offOf (hB : BM ρ) {h : Int} (hh : 0 ≤ h ∧ h < 10) : G 137 0 [some (.ref 51), some (vI h)] [] (toM ρ τ) Q = Q (some (vI (oS ρ h))) (toM ρ τ) := by
  rw [b137_0 ρ τ h hB ⟨by omega, by omega⟩, m_off_loop hB hh h.toNat 1 0 [] (by omega) (by omega) (by omega)]
  simp [oS]
theorem oS_bd (hB : BM ρ) {h : Int} (hh : 0 ≤ h ∧ h < 10) : -20000000 ≤ oS ρ h ∧ oS ρ h ≤ 20000000 := by
  have := sumR_bd (f := ρ 52) (B := 2000000) (fun j => hB 52 j (by decide)) (by decide) h.toNat 1
  unfold oS
  omega
end LEAF
