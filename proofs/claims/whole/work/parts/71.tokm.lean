/-! tokens: the reference -/
def jI (z : Int) : Int64 := Int64.ofInt z
abbrev LB (z : Int) : Prop := -9223372036854775808 ≤ z ∧ z < 9223372036854775808
theorem jI_toInt {z : Int} (h : LB z) : (jI z).toInt = z := Int64.toInt_ofInt_of_le h.1 h.2
theorem jI_eq {a b : Int} (ha : LB a) (hb : LB b) : jI a = jI b ↔ a = b := by
  constructor
  · intro h
    have := congrArg Int64.toInt h
    rwa [jI_toInt ha, jI_toInt hb] at this
  · intro h; rw [h]
theorem jI_i {c : Int} (h : SB c) : (iI c).toInt64 = jI c := by
  apply Int64.toInt_inj.mp
  rw [Int32.toInt_toInt64, iI_toInt h, jI_toInt ⟨by omega, by omega⟩]
theorem jI_m4 : (-4 : Int64) = jI (-4) := by decide
theorem jI_m3 : (-3 : Int64) = jI (-3) := by decide
theorem jI_m2 : (-2 : Int64) = jI (-2) := by decide
theorem jI_m1 : (-1 : Int64) = jI (-1) := by decide
theorem jI_hash {h c : Int} (hc : SB c) : (((27 : Int64) * jI h) + (iI c).toInt64) - (96 : Int64) = jI (27 * h + c - 96) := by
  rw [jI_i hc, show (27 : Int64) = jI 27 by decide, show (96 : Int64) = jI 96 by decide]
  unfold jI
  rw [← Int64.ofInt_mul, ← Int64.ofInt_add, ← Int64.ofInt_sub]
def hs (T : Int → Int) (s : Int) : Nat → Int
  | 0 => 0
  | k + 1 => if k < 9 then 27 * hs T s k + T (s + k) - 96 else -4
def tkT (T : Int → Int) (n s : Int) : Int := if n ≤ s then -2 else if q_let (T s) then (if tkE T n s - s ≤ 9 then hs T s (tkE T n s - s).toNat else -4) else if q_dig (T s) then (if tkE T n s - s ≤ 4 then -1 else -4) else if T s = 59 then -3 else -4
def K51 (ρ ρ' : rm) : Prop := ∀ k j, ¬ (k = 51 ∧ (j = 12 ∨ j = 13 ∨ j = 15 ∨ j = 16)) → ρ' k j = ρ k j
theorem K51.refl (ρ : rm) : K51 ρ ρ := fun _ _ _ => rfl
theorem K51.trans {a b c : rm} (h1 : K51 a b) (h2 : K51 b c) : K51 a c := fun k j h => (h2 k j h).trans (h1 k j h)
theorem K51.up {ρ ρ' : rm} (h : K51 ρ ρ') {i : Int} (x : Int) (hi : i = 12 ∨ i = 13 ∨ i = 15 ∨ i = 16) : K51 ρ (rup ρ' 51 i x) := fun a j ha => by
  rw [← h a j ha]
  unfold rup
  rw [if_neg (fun z => ha ⟨z.1, by omega⟩)]
theorem K51.fn {ρ ρ' : rm} (h : K51 ρ ρ') {k : Nat} (hk : k ≠ 51) : ρ' k = ρ k := funext fun j => h k j (fun z => hk z.1)
theorem rup51 {ρ : rm} {i j x : Int} (h : j ≠ i) : rup ρ 51 i x 51 j = ρ 51 j := rup_sl h
section MT
variable {Q : Option Value → mm → Prop}
theorem m_letters (t : List (Option Value)) : ∀ (d : Nat) (ρ : rm) (τ : Int64), TI ρ → (0 ≤ ρ 51 13 ∧ ρ 51 13 ≤ ρ 51 12 ∧ ρ 51 12 ≤ ρ 51 10) → (ρ 51 10 - ρ 51 12).toNat = d → τ = jI (hs (ρ 58) (ρ 51 13) (ρ 51 12 - ρ 51 13).toNat) → (∀ ρ', TI ρ' → K51 ρ ρ' → ρ' 51 12 = ru q_let (ρ 58) (ρ 51 10) (ρ 51 12) → ρ' 51 13 = ρ 51 13 → Q none (toM ρ' (jI (if ρ' 51 12 - ρ 51 13 ≤ 9 then hs (ρ 58) (ρ 51 13) (ρ' 51 12 - ρ 51 13).toNat else -4)))) → G 125 101 (some (.ref 51) :: t) [] (toM ρ τ) Q := by
  have fin : ∀ (ρ : rm) (τ : Int64), TI ρ → τ = jI (hs (ρ 58) (ρ 51 13) (ρ 51 12 - ρ 51 13).toNat) → (Q none (toM ρ (jI (if ρ 51 12 - ρ 51 13 ≤ 9 then hs (ρ 58) (ρ 51 13) (ρ 51 12 - ρ 51 13).toNat else -4)))) → (if ρ 51 12 - ρ 51 13 ≤ 9 then Q none (toM ρ τ) else Q none (toM ρ (-4 : Int64))) := by
    intro ρ τ hT ht h
    split
    · rename_i c
      rw [if_pos c] at h
      rw [ht]; exact h
    · rename_i c
      rw [if_neg c] at h
      rw [jI_m4]; exact h
  intro d
  induction d with
  | zero =>
    intro ρ τ hT hp hd ht H
    rw [b125_101 ρ τ t hT.1, if_pos (by omega)]
    exact fin ρ τ hT ht (H ρ hT (K51.refl ρ) (ru_stop (by omega)).symm rfl)
  | succ d ih =>
    intro ρ τ hT hp hd ht H
    have hn : 0 ≤ ρ 51 10 ∧ ρ 51 10 ≤ 200 := hT.2 51 10
    have hb : 0 ≤ ρ 58 (ρ 51 12) ∧ ρ 58 (ρ 51 12) ≤ 255 := hT.2 58 _
    rw [b125_101 ρ τ t hT.1, if_neg (by omega), if_pos (by omega), m_in hT.1 ⟨by omega, by omega⟩ (by decide) (by decide), b125_128 ρ τ t _ hT.1 (tv_sm _)]
    by_cases c : q_let (ρ 58 (ρ 51 12))
    · rw [if_neg (by rw [tv_0]; exact fun z => z c)]
      have e1 : rup ρ 51 12 (ρ 51 12 + 1) 51 12 = ρ 51 12 + 1 := rup_same _ _ _ _
      have e2 : rup ρ 51 12 (ρ 51 12 + 1) 51 10 = ρ 51 10 := rup51 (by decide)
      have e3 : rup ρ 51 12 (ρ 51 12 + 1) 58 = ρ 58 := rup_fn (by decide)
      have e4 : rup ρ 51 12 (ρ 51 12 + 1) 51 13 = ρ 51 13 := rup51 (by decide)
      have e0 : (ρ 51 12 + 1 - ρ 51 13).toNat = (ρ 51 12 - ρ 51 13).toNat + 1 := by omega
      have go : ∀ τ', τ' = jI (hs (ρ 58) (ρ 51 13) (ρ 51 12 + 1 - ρ 51 13).toNat) → G 125 101 (some (.ref 51) :: t) [] (toM (rup ρ 51 12 (ρ 51 12 + 1)) τ') Q := fun τ' ht' => by
        refine ih _ τ' (TI_up hT 51 12 (x := ρ 51 12 + 1) (show 0 ≤ ρ 51 12 + 1 ∧ ρ 51 12 + 1 ≤ 200 by omega) (by omega)) (by rw [e1, e2, e4]; omega) (by rw [e1, e2]; omega) (by rw [e1, e3, e4]; exact ht') (fun ρ' t1 t2 t3 t4 => ?_)
        rw [e3, e4]
        refine H ρ' t1 (((K51.refl ρ).up _ (by omega)).trans t2) ?_ (by rw [t4, e4])
        rw [t3, e1, e2, e3]
        exact (ru_go (by omega) c).symm
      have ev : hs (ρ 58) (ρ 51 13) (ρ 51 12 + 1 - ρ 51 13).toNat = if (ρ 51 12 - ρ 51 13).toNat < 9 then 27 * hs (ρ 58) (ρ 51 13) (ρ 51 12 - ρ 51 13).toNat + ρ 58 (ρ 51 13 + ((ρ 51 12 - ρ 51 13).toNat : Int)) - 96 else -4 := by rw [e0]; rfl
      rw [show ρ 51 13 + ((ρ 51 12 - ρ 51 13).toNat : Int) = ρ 51 12 by omega] at ev
      split
      · rename_i c2
        rw [if_neg (by omega)] at ev
        exact go _ (by rw [ev]; exact jI_m4)
      · rename_i c2
        rw [if_pos (by omega)] at ev
        rw [if_pos (by omega)]
        refine go _ ?_
        rw [ev, ht]
        exact jI_hash ⟨by omega, by omega⟩
    · rw [if_pos (by rw [tv_0]; exact c)]
      exact fin ρ τ hT ht (H ρ hT (K51.refl ρ) (ru_no c).symm rfl)
theorem m_digits (t : List (Option Value)) {τ : Int64} : ∀ (d : Nat) (ρ : rm), TI ρ → (0 ≤ ρ 51 13 ∧ ρ 51 13 ≤ ρ 51 12 ∧ ρ 51 12 ≤ ρ 51 10) → (ρ 51 10 - ρ 51 12).toNat = d → (∀ q, ρ 51 13 ≤ q → q < ρ 51 12 → q_dig (ρ 58 q)) → ρ 51 15 = ρ 51 12 - ρ 51 13 → ρ 51 16 = nm (ρ 58) (ρ 51 13) (ρ 51 12 - ρ 51 13).toNat → (∀ ρ', TI ρ' → K51 ρ ρ' → ρ' 51 12 = ru q_dig (ρ 58) (ρ 51 10) (ρ 51 12) → ρ' 51 13 = ρ 51 13 → ρ' 51 16 = nm (ρ 58) (ρ 51 13) (ρ' 51 12 - ρ 51 13).toNat → Q none (toM ρ' (jI (if ρ' 51 12 - ρ 51 13 ≤ 4 then -1 else -4)))) → G 125 241 (some (.ref 51) :: t) [] (toM ρ τ) Q := by
  have fin : ∀ (ρ : rm), ρ 51 15 = ρ 51 12 - ρ 51 13 → (Q none (toM ρ (jI (if ρ 51 12 - ρ 51 13 ≤ 4 then -1 else -4)))) → (if ρ 51 15 ≤ 4 then Q none (toM ρ (-1 : Int64)) else Q none (toM ρ (-4 : Int64))) := by
    intro ρ h15 h
    split
    · rename_i c
      rw [if_pos (by omega)] at h
      rw [jI_m1]; exact h
    · rename_i c
      rw [if_neg (by omega)] at h
      rw [jI_m4]; exact h
  intro d
  induction d with
  | zero =>
    intro ρ hT hp hd hq h15 h16 H
    rw [b125_241 ρ τ t hT.1, if_pos (by omega)]
    exact fin ρ h15 (H ρ hT (K51.refl ρ) (ru_stop (by omega)).symm rfl h16)
  | succ d ih =>
    intro ρ hT hp hd hq h15 h16 H
    have hn : 0 ≤ ρ 51 10 ∧ ρ 51 10 ≤ 200 := hT.2 51 10
    have hb : 0 ≤ ρ 58 (ρ 51 12) ∧ ρ 58 (ρ 51 12) ≤ 255 := hT.2 58 _
    rw [b125_241 ρ τ t hT.1, if_neg (by omega), if_pos (by omega), m_in hT.1 ⟨by omega, by omega⟩ (by decide) (by decide), b125_268 ρ τ t _ hT.1 (tv_sm _)]
    by_cases c : q_dig (ρ 58 (ρ 51 12))
    · rw [if_neg (by rw [tv_0]; exact fun z => z c)]
      have e0 : (ρ 51 12 + 1 - ρ 51 13).toNat = (ρ 51 12 - ρ 51 13).toNat + 1 := by omega
      have hq2 : ∀ q, ρ 51 13 ≤ q → q < ρ 51 12 + 1 → q_dig (ρ 58 q) := fun q q1 q2 => by
        by_cases e : q = ρ 51 12
        · rw [e]; exact c
        · exact hq q q1 (by omega)
      have rg := nm_rg (T := ρ 58) (s := ρ 51 13) (ρ 51 12 + 1 - ρ 51 13).toNat (fun q q1 q2 => hq2 _ (by omega) (by omega))
      have go : ∀ (v : Int), v = nm (ρ 58) (ρ 51 13) (ρ 51 12 + 1 - ρ 51 13).toNat → G 125 241 (some (.ref 51) :: t) [] (toM (rup (rup (rup ρ 51 16 v) 51 15 (ρ 51 15 + 1)) 51 12 (ρ 51 12 + 1)) τ) Q := fun v ev => by
        have hT3 := TI_up (TI_up (TI_up hT 51 16 (x := v) (show 0 ≤ v ∧ v ≤ 9999 by omega) (by omega)) 51 15 (x := ρ 51 15 + 1) (show 0 ≤ ρ 51 15 + 1 ∧ ρ 51 15 + 1 ≤ 200 by omega) (by omega)) 51 12 (x := ρ 51 12 + 1) (show 0 ≤ ρ 51 12 + 1 ∧ ρ 51 12 + 1 ≤ 200 by omega) (by omega)
        have kk := (((K51.refl ρ).up (i := 16) v (by omega)).up (i := 15) (ρ 51 15 + 1) (by omega)).up (i := 12) (ρ 51 12 + 1) (by omega)
        have e1 : rup (rup (rup ρ 51 16 v) 51 15 (ρ 51 15 + 1)) 51 12 (ρ 51 12 + 1) 51 12 = ρ 51 12 + 1 := rup_same _ _ _ _
        have e2 : rup (rup (rup ρ 51 16 v) 51 15 (ρ 51 15 + 1)) 51 12 (ρ 51 12 + 1) 51 10 = ρ 51 10 := by rw [rup51 (by decide), rup51 (by decide), rup51 (by decide)]
        have e3 : rup (rup (rup ρ 51 16 v) 51 15 (ρ 51 15 + 1)) 51 12 (ρ 51 12 + 1) 58 = ρ 58 := by rw [rup_fn (by decide), rup_fn (by decide), rup_fn (by decide)]
        have e4 : rup (rup (rup ρ 51 16 v) 51 15 (ρ 51 15 + 1)) 51 12 (ρ 51 12 + 1) 51 13 = ρ 51 13 := by rw [rup51 (by decide), rup51 (by decide), rup51 (by decide)]
        have e5 : rup (rup (rup ρ 51 16 v) 51 15 (ρ 51 15 + 1)) 51 12 (ρ 51 12 + 1) 51 15 = ρ 51 15 + 1 := by rw [rup51 (by decide)]; exact rup_same _ _ _ _
        have e6 : rup (rup (rup ρ 51 16 v) 51 15 (ρ 51 15 + 1)) 51 12 (ρ 51 12 + 1) 51 16 = v := by rw [rup51 (by decide), rup51 (by decide)]; exact rup_same _ _ _ _
        generalize rup (rup (rup ρ 51 16 v) 51 15 (ρ 51 15 + 1)) 51 12 (ρ 51 12 + 1) = ρ3 at hT3 kk e1 e2 e3 e4 e5 e6 ⊢
        refine ih ρ3 hT3 (by rw [e1, e2, e4]; omega) (by rw [e1, e2]; omega) (by rw [e1, e3, e4]; exact hq2) (by rw [e1, e4, e5]; omega) (by rw [e1, e3, e4, e6]; exact ev) (fun ρ' t1 t2 t3 t4 t5 => ?_)
        rw [e4]
        refine H ρ' t1 (kk.trans t2) ?_ (by rw [t4, e4]) (by rw [t5, e3, e4])
        rw [t3, e1, e2, e3]
        exact (ru_go (by omega) c).symm
      have ev : nm (ρ 58) (ρ 51 13) (ρ 51 12 + 1 - ρ 51 13).toNat = if (ρ 51 12 - ρ 51 13).toNat < 4 then 10 * nm (ρ 58) (ρ 51 13) (ρ 51 12 - ρ 51 13).toNat + ρ 58 (ρ 51 13 + ((ρ 51 12 - ρ 51 13).toNat : Int)) - 48 else nm (ρ 58) (ρ 51 13) (ρ 51 12 - ρ 51 13).toNat := by rw [e0]; rfl
      rw [show ρ 51 13 + ((ρ 51 12 - ρ 51 13).toNat : Int) = ρ 51 12 by omega, ← h16] at ev
      split
      · rename_i c2
        rw [if_neg (by omega)] at ev
        exact go _ ev.symm
      · rename_i c2
        rw [if_pos (by omega)] at ev
        rw [if_pos (by omega)]
        exact go _ ev.symm
    · rw [if_pos (by rw [tv_0]; exact c)]
      exact fin ρ h15 (H ρ hT (K51.refl ρ) (ru_no c).symm rfl h16)
/-- behind the blanks -/
theorem m_tok1 {ρ : rm} {τ : Int64} (hT : TI ρ) (hp : 0 ≤ ρ 51 12 ∧ ρ 51 12 < ρ 51 10) (H : ∀ ρ', TI ρ' → K51 ρ ρ' → ρ' 51 13 = ρ 51 12 → ρ' 51 12 = tkE (ρ 58) (ρ 51 10) (ρ 51 12) → (tkT (ρ 58) (ρ 51 10) (ρ 51 12) = -1 → ρ' 51 16 = tkV (ρ 58) (ρ 51 10) (ρ 51 12)) → Q none (toM ρ' (jI (tkT (ρ 58) (ρ 51 10) (ρ 51 12))))) : G 117 0 [some (vI (ρ 58 (ρ 51 12))), some (vI 97), some (vI 122)] [] (toM (rup (rup (rup ρ 51 13 (ρ 51 12)) 51 15 0) 51 16 0) τ) (fun v μ2 => G 125 93 (some (.ref 51) :: []) (v.toList ++ []) μ2 Q) := by
  have hn : 0 ≤ ρ 51 10 ∧ ρ 51 10 ≤ 200 := hT.2 51 10
  have hb : 0 ≤ ρ 58 (ρ 51 12) ∧ ρ 58 (ρ 51 12) ≤ 255 := hT.2 58 _
  have hT1 := TI_up (TI_up (TI_up hT 51 13 (x := ρ 51 12) (show 0 ≤ ρ 51 12 ∧ ρ 51 12 ≤ 200 by omega) (by omega)) 51 15 (x := 0) (show (0 : Int) ≤ 0 ∧ (0 : Int) ≤ 200 by omega) (by omega)) 51 16 (x := 0) (show (0 : Int) ≤ 0 ∧ (0 : Int) ≤ 9999 by omega) (by omega)
  have k1 := (((K51.refl ρ).up (i := 13) (ρ 51 12) (by omega)).up (i := 15) 0 (by omega)).up (i := 16) 0 (by omega)
  have f1 : rup (rup (rup ρ 51 13 (ρ 51 12)) 51 15 0) 51 16 0 51 12 = ρ 51 12 := by rw [rup51 (by decide), rup51 (by decide), rup51 (by decide)]
  have f2 : rup (rup (rup ρ 51 13 (ρ 51 12)) 51 15 0) 51 16 0 51 10 = ρ 51 10 := by rw [rup51 (by decide), rup51 (by decide), rup51 (by decide)]
  have f3 : rup (rup (rup ρ 51 13 (ρ 51 12)) 51 15 0) 51 16 0 58 = ρ 58 := by rw [rup_fn (by decide), rup_fn (by decide), rup_fn (by decide)]
  have f4 : rup (rup (rup ρ 51 13 (ρ 51 12)) 51 15 0) 51 16 0 51 13 = ρ 51 12 := by rw [rup51 (by decide), rup51 (by decide)]; exact rup_same _ _ _ _
  have f5 : rup (rup (rup ρ 51 13 (ρ 51 12)) 51 15 0) 51 16 0 51 15 = 0 := by rw [rup51 (by decide)]; exact rup_same _ _ _ _
  have f6 : rup (rup (rup ρ 51 13 (ρ 51 12)) 51 15 0) 51 16 0 51 16 = 0 := rup_same _ _ _ _
  generalize rup (rup (rup ρ 51 13 (ρ 51 12)) 51 15 0) 51 16 0 = ρ1 at hT1 k1 f1 f2 f3 f4 f5 f6 ⊢
  rw [m_in hT1.1 ⟨by omega, by omega⟩ (by decide) (by decide), b125_93 ρ1 τ [] _ hT1.1 (tv_sm _)]
  by_cases c : q_let (ρ 58 (ρ 51 12))
  · rw [if_neg (by rw [tv_0]; exact fun z => z c)]
    have hE : tkE (ρ 58) (ρ 51 10) (ρ 51 12) = ru q_let (ρ 58) (ρ 51 10) (ρ 51 12) := by unfold tkE; rw [if_neg (by omega), if_pos c]
    have hK : tkT (ρ 58) (ρ 51 10) (ρ 51 12) = if ru q_let (ρ 58) (ρ 51 10) (ρ 51 12) - ρ 51 12 ≤ 9 then hs (ρ 58) (ρ 51 12) (ru q_let (ρ 58) (ρ 51 10) (ρ 51 12) - ρ 51 12).toNat else -4 := by unfold tkT; rw [if_neg (by omega), if_pos c, hE]
    refine m_letters [] _ ρ1 (0 : Int64) hT1 (by rw [f1, f2, f4]; omega) rfl ?_ (fun ρ' t1 t2 t3 t4 => ?_)
    · rw [f1, f4, show (ρ 51 12 - ρ 51 12).toNat = 0 by omega]
      show (0 : Int64) = jI 0
      decide
    · rw [f1, f2, f3] at t3
      rw [f3, f4, t3, ← hK]
      refine H ρ' t1 (k1.trans t2) (by rw [t4, f4]) (by rw [t3, hE]) (fun z => ?_)
      exfalso
      rw [hK] at z
      have rb := ru_bd (P := q_let) (T := ρ 58) (n := ρ 51 10) (p := ρ 51 12) (by omega)
      split at z
      · have key : ∀ k : Nat, (k : Int) ≤ ru q_let (ρ 58) (ρ 51 10) (ρ 51 12) - ρ 51 12 → k ≤ 9 → 0 ≤ hs (ρ 58) (ρ 51 12) k := by
          intro k
          induction k with
          | zero => intro _ _; exact Int.le_refl _
          | succ k ih =>
            intro a1 a2
            have := ih (by omega) (by omega)
            have h9 := rb.2.2 (ρ 51 12 + k) (by omega) (by omega)
            show 0 ≤ (if k < 9 then 27 * hs (ρ 58) (ρ 51 12) k + ρ 58 (ρ 51 12 + k) - 96 else -4)
            rw [if_pos (by omega)]
            omega
        have := key _ (show (((ru q_let (ρ 58) (ρ 51 10) (ρ 51 12) - ρ 51 12).toNat : Nat) : Int) ≤ _ by omega) (by omega)
        omega
      · omega
  · rw [if_pos (by rw [tv_0]; exact c), f1, if_pos (by omega), f3, m_in hT1.1 ⟨by omega, by omega⟩ (by decide) (by decide), b125_238 ρ1 τ [] _ hT1.1 (tv_sm _), f1, f3]
    by_cases c2 : q_dig (ρ 58 (ρ 51 12))
    · rw [if_neg (by rw [tv_0]; exact fun z => z c2)]
      have hE : tkE (ρ 58) (ρ 51 10) (ρ 51 12) = ru q_dig (ρ 58) (ρ 51 10) (ρ 51 12) := by unfold tkE; rw [if_neg (by omega), if_neg c, if_pos c2]
      have hK : tkT (ρ 58) (ρ 51 10) (ρ 51 12) = if ru q_dig (ρ 58) (ρ 51 10) (ρ 51 12) - ρ 51 12 ≤ 4 then -1 else -4 := by unfold tkT; rw [if_neg (by omega), if_neg c, if_pos c2, hE]
      refine m_digits [] _ ρ1 hT1 (by rw [f1, f2, f4]; omega) rfl (by rw [f1, f4]; intro q q1 q2; omega) (by rw [f1, f4, f5]; omega) (by rw [f1, f4, f6, show (ρ 51 12 - ρ 51 12).toNat = 0 by omega]; rfl) (fun ρ' t1 t2 t3 t4 t5 => ?_)
      rw [f1, f2, f3] at t3
      rw [f3, f4, t3] at t5
      rw [f4, t3, ← hK]
      refine H ρ' t1 (k1.trans t2) (by rw [t4, f4]) (by rw [t3, hE]) (fun z => ?_)
      rw [hK] at z
      split at z
      · rw [t5, nm_cv _ _ _ (by omega)]
        unfold tkV
        rw [hE]
      · omega
    · rw [if_pos (by rw [tv_0]; exact c2), if_pos (by omega)]
      have hE : tkE (ρ 58) (ρ 51 10) (ρ 51 12) = ρ 51 12 + 1 := by unfold tkE; rw [if_neg (by omega), if_neg c, if_neg c2]
      have fin : ∀ v, (v = -3 ∨ v = -4) → tkT (ρ 58) (ρ 51 10) (ρ 51 12) = v → Q none (toM (rup ρ1 51 12 (ρ 51 12 + 1)) (jI v)) := fun v v1 v2 => by
        rw [← v2]
        refine H _ (TI_up hT1 51 12 (x := ρ 51 12 + 1) (show 0 ≤ ρ 51 12 + 1 ∧ ρ 51 12 + 1 ≤ 200 by omega) (by omega)) (k1.up _ (by omega)) ?_ ?_ (fun z => by omega)
        · rw [rup51 (by decide), f4]
        · rw [rup_same, hE]
      split
      · rename_i c3
        rw [jI_m3]
        exact fin (-3) (Or.inl rfl) (by unfold tkT; rw [if_neg (by omega), if_neg c, if_neg c2, if_pos c3])
      · rename_i c3
        rw [jI_m4]
        exact fin (-4) (Or.inr rfl) (by unfold tkT; rw [if_neg (by omega), if_neg c, if_neg c2, if_neg c3])
theorem m_tok {τ : Int64} : ∀ (d : Nat) (ρ : rm), TI ρ → (0 ≤ ρ 51 12 ∧ ρ 51 12 ≤ ρ 51 10) → (ρ 51 10 - ρ 51 12).toNat = d → (∀ ρ', TI ρ' → K51 ρ ρ' → ρ' 51 13 = tkS (ρ 58) (ρ 51 10) (ρ 51 12) → ρ' 51 12 = tkE (ρ 58) (ρ 51 10) (ρ' 51 13) → (tkT (ρ 58) (ρ 51 10) (ρ' 51 13) = -1 → ρ' 51 16 = tkV (ρ 58) (ρ 51 10) (ρ' 51 13)) → Q none (toM ρ' (jI (tkT (ρ 58) (ρ 51 10) (ρ' 51 13))))) → G 125 0 [some (.ref 51)] [] (toM ρ τ) Q := by
  intro d
  induction d with
  | zero =>
    intro ρ hT hp hd H
    have hn : 0 ≤ ρ 51 10 ∧ ρ 51 10 ≤ 200 := hT.2 51 10
    rw [b125_0 ρ τ hT.1, if_pos (by omega), if_pos (by omega)]
    have e3 : rup (rup (rup ρ 51 13 (ρ 51 12)) 51 15 0) 51 16 0 51 13 = ρ 51 12 := by rw [rup51 (by decide), rup51 (by decide)]; exact rup_same _ _ _ _
    have e2 : rup (rup (rup ρ 51 13 (ρ 51 12)) 51 15 0) 51 16 0 51 12 = ρ 51 12 := by rw [rup51 (by decide), rup51 (by decide), rup51 (by decide)]
    have hK : tkT (ρ 58) (ρ 51 10) (ρ 51 12) = -2 := by unfold tkT; rw [if_pos (by omega)]
    have := H _ (TI_up (TI_up (TI_up hT 51 13 (x := ρ 51 12) (show 0 ≤ ρ 51 12 ∧ ρ 51 12 ≤ 200 by omega) (by omega)) 51 15 (x := 0) (show (0 : Int) ≤ 0 ∧ (0 : Int) ≤ 200 by omega) (by omega)) 51 16 (x := 0) (show (0 : Int) ≤ 0 ∧ (0 : Int) ≤ 9999 by omega) (by omega)) ((((K51.refl ρ).up (i := 13) (ρ 51 12) (by omega)).up (i := 15) 0 (by omega)).up (i := 16) 0 (by omega)) (by rw [e3]; exact (ru_stop (by omega)).symm) (by rw [e3, e2]; unfold tkE; rw [if_pos (by omega)]) (by rw [e3, hK]; intro z; omega)
    rw [e3, hK] at this
    rw [jI_m2]
    exact this
  | succ d ih =>
    intro ρ hT hp hd H
    have hn : 0 ≤ ρ 51 10 ∧ ρ 51 10 ≤ 200 := hT.2 51 10
    rw [b125_0 ρ τ hT.1, if_neg (by omega), if_pos (by omega)]
    by_cases c : ρ 58 (ρ 51 12) = 32
    · rw [if_pos c]
      have e1 : rup ρ 51 12 (ρ 51 12 + 1) 51 12 = ρ 51 12 + 1 := rup_same _ _ _ _
      have e2 : rup ρ 51 12 (ρ 51 12 + 1) 51 10 = ρ 51 10 := rup51 (by decide)
      have e3 : rup ρ 51 12 (ρ 51 12 + 1) 58 = ρ 58 := rup_fn (by decide)
      refine ih _ (TI_up hT 51 12 (x := ρ 51 12 + 1) (show 0 ≤ ρ 51 12 + 1 ∧ ρ 51 12 + 1 ≤ 200 by omega) (by omega)) (by rw [e1, e2]; omega) (by rw [e1, e2]; omega) (fun ρ' t1 t2 t3 t4 t5 => ?_)
      rw [e1, e2, e3] at t3
      rw [e2, e3] at t4 t5
      rw [e2, e3]
      exact H ρ' t1 (((K51.refl ρ).up _ (by omega)).trans t2) (by rw [t3]; exact (ru_go (P := q_bla) (by omega) c).symm) t4 t5
    · rw [if_neg c, if_neg (by omega), if_pos (by omega)]
      have e : tkS (ρ 58) (ρ 51 10) (ρ 51 12) = ρ 51 12 := ru_no c
      refine m_tok1 hT (by omega) (fun ρ' t1 t2 t3 t4 t5 => ?_)
      have := H ρ' t1 t2 (by rw [t3, e]) (by rw [t3]; exact t4) (by rw [t3]; exact t5)
      rw [t3] at this
      exact this
end MT
