/-! the least set of wrong clocks: pure -/
theorem sF_add (g g' : Int → Int) : ∀ (n : Nat), sF (fun q => g q + g' q) n = sF g n + sF g' n
  | 0 => rfl
  | n + 1 => by rw [sF_succ, sF_succ, sF_succ, sF_add g g' n]; omega
theorem sF_cg {g g' : Int → Int} : ∀ (n : Nat), (∀ q, 0 ≤ q → q < (n : Int) → g q = g' q) → sF g n = sF g' n
  | 0, _ => rfl
  | n + 1, h => by rw [sF_succ, sF_succ, sF_cg n (fun q q1 q2 => h q q1 (by omega)), h (n : Int) (by omega) (by omega)]
theorem ch_pos (h : Int) : 0 < ch h := by
  have : (0 : Int) ≤ ((2 ^ h.toNat : Nat) : Int) := Int.natCast_nonneg _
  unfold ch
  generalize ((2 ^ h.toNat : Nat) : Int) = z at this ⊢
  omega
def nf (n x h : Int) : Int := if h < n ∧ bt x h.toNat = false then ch h else 0
theorem nf_nn (n x h : Int) : 0 ≤ nf n x h := by have := ch_pos h; unfold nf; split <;> omega
theorem wt_split {n x : Int} (hx : ∀ h, 0 ≤ h → h < 10 → n ≤ h → bt x h.toNat = false) : wtS x + sF (nf n x) 10 = sF (fun h => if h < n then ch h else 0) 10 := by
  unfold wtS
  have e := sF_add (cs x) (nf n x) 10
  refine e.symm.trans (sF_cg 10 (fun q q1 q2 => ?_))
  unfold cs nf
  have h1 := hx q q1 q2
  by_cases c : q < n
  · rw [if_pos c]
    cases hb : bt x q.toNat with
    | true => rw [if_pos rfl, if_neg (by simp)]; omega
    | false => rw [if_neg (by simp), if_pos ⟨c, rfl⟩]; omega
  · rw [if_neg c, h1 (by omega), if_neg (by simp), if_neg (by omega)]
    rfl
def agF (n : Int) (γ α : Int → Int) (h1 h : Int) : Int := if h < n ∧ γ h = γ h1 ∧ α h = α h1 then ch h else 0
def vld (n : Int) (γ α : Int → Int) (S : Int) : Prop := ∀ a b, (0 ≤ a ∧ a < n) → (0 ≤ b ∧ b < n) → a ≠ b → bt S a.toNat = true ∨ bt S b.toNat = true ∨ γ a ≠ γ b ∨ α a = α b
/-- what the class answers -/
def WR (n : Int) (γ α R : Int → Int) (W : Int) : Prop :=
  (0 ≤ W ∧ W < 1024) ∧ (∀ h, 0 ≤ h → h < 10 → (bt W h.toNat = true ↔ h < n ∧ ¬ bt (R (γ h)) h.toNat = true)) ∧
  ∀ g, 0 ≤ g → g < n → γ g = g → (∃ h0, (0 ≤ h0 ∧ h0 < n) ∧ γ h0 = g ∧ ∀ h, 0 ≤ h → h < 10 → (bt (R g) h.toNat = true ↔ h < n ∧ γ h = g ∧ α h = α h0)) ∧ ∀ h1, 0 ≤ h1 → h1 < n → γ h1 = g → sF (agF n γ α h1) 10 ≤ wtS (R g)
section WM
variable {n W S : Int} {γ α R : Int → Int}
theorem w_valid (hn : 2 ≤ n ∧ n ≤ 10) (hγ : ∀ h, 0 ≤ h → h < n → (0 ≤ γ h ∧ γ h < n) ∧ γ (γ h) = γ h) (hW : WR n γ α R W) : vld n γ α W := by
  obtain ⟨w1, w2, w3⟩ := hW
  intro a b ha hb hab
  by_cases c1 : bt W a.toNat = true
  · exact Or.inl c1
  by_cases c2 : bt W b.toNat = true
  · exact Or.inr (Or.inl c2)
  by_cases c3 : γ a = γ b
  · refine Or.inr (Or.inr (Or.inr ?_))
    have ga := hγ a ha.1 ha.2
    obtain ⟨⟨h0, k1, k2, k3⟩, -⟩ := w3 (γ a) ga.1.1 ga.1.2 ga.2
    have ra : bt (R (γ a)) a.toNat = true := by
      refine Classical.byContradiction (fun z => c1 ((w2 a ha.1 (by omega)).mpr ⟨ha.2, z⟩))
    have rb : bt (R (γ a)) b.toNat = true := by
      refine Classical.byContradiction (fun z => c2 ((w2 b hb.1 (by omega)).mpr ⟨hb.2, ?_⟩))
      rw [← c3]
      exact z
    have e1 := ((k3 a ha.1 (by omega)).mp ra).2.2
    have e2 := ((k3 b hb.1 (by omega)).mp rb).2.2
    rw [e1, e2]
  · exact Or.inr (Or.inr (Or.inl c3))
theorem w_min (hn : 2 ≤ n ∧ n ≤ 10) (hγ : ∀ h, 0 ≤ h → h < n → (0 ≤ γ h ∧ γ h < n) ∧ γ (γ h) = γ h) (hW : WR n γ α R W) (hS : vld n γ α S) (hS2 : ∀ h, 0 ≤ h → h < 10 → n ≤ h → bt S h.toNat = false) : wtS W ≤ wtS S := by
  obtain ⟨w1, w2, w3⟩ := hW
  have wW : ∀ h, 0 ≤ h → h < 10 → n ≤ h → bt W h.toNat = false := fun h z1 z2 z3 => by
    cases hb : bt W h.toNat with
    | false => rfl
    | true => have := ((w2 h z1 z2).mp hb).1; omega
  have s1 := wt_split wW
  have s2 := wt_split hS2
  have grp : ∀ k : Int, 0 ≤ k → k < n → sF (fun h => if h < n ∧ γ h = k then nf n S h else 0) 10 ≤ sF (fun h => if h < n ∧ γ h = k then nf n W h else 0) 10 := by
    intro k k0 kn
    by_cases ex_ : ∃ h1, (0 ≤ h1 ∧ h1 < n) ∧ γ h1 = k ∧ bt S h1.toNat = false
    · obtain ⟨h1, a1, a2, a3⟩ := ex_
      have gk : γ k = k := by rw [← a2]; exact (hγ h1 a1.1 a1.2).2
      obtain ⟨⟨h0, b1, b2, b3⟩, b4⟩ := w3 k k0 kn gk
      have p1 := (sF_mono (g := fun h => if h < n ∧ γ h = k then nf n S h else 0) (g' := agF n γ α h1) 10 (fun q q1 q2 => by
        have cp := ch_pos q
        show (if q < n ∧ γ q = k then nf n S q else 0) ≤ agF n γ α h1 q
        unfold agF nf
        by_cases c : q < n ∧ γ q = k
        · rw [if_pos c]
          by_cases c2 : bt S q.toNat = false
          · rw [if_pos ⟨c.1, c2⟩]
            have ea : α q = α h1 := by
              by_cases c3 : q = h1
              · rw [c3]
              · rcases hS q h1 ⟨q1, c.1⟩ a1 c3 with z | z | z | z
                · rw [c2] at z; cases z
                · rw [a3] at z; cases z
                · exact absurd (by rw [c.2, a2]) z
                · exact z
            rw [if_pos ⟨c.1, by rw [c.2, a2], ea⟩]
            exact Int.le_refl _
          · rw [if_neg (fun z => c2 z.2)]
            split <;> omega
        · rw [if_neg c]
          split <;> omega)).1
      have p2 := b4 h1 a1.1 a1.2 a2
      have p3 := (sF_mono (g := cs (R k)) (g' := fun h => if h < n ∧ γ h = k then nf n W h else 0) 10 (fun q q1 q2 => by
        have cp := ch_pos q
        show cs (R k) q ≤ (if q < n ∧ γ q = k then nf n W q else 0)
        unfold cs nf
        by_cases c : bt (R k) q.toNat = true
        · rw [if_pos c]
          have z := (b3 q q1 (by omega)).mp c
          have zw : bt W q.toNat = false := by
            cases hb : bt W q.toNat with
            | false => rfl
            | true =>
              have := ((w2 q q1 (by omega)).mp hb).2
              rw [z.2.1] at this
              exact absurd c this
          rw [if_pos ⟨z.1, z.2.1⟩, if_pos ⟨z.1, zw⟩]
          exact Int.le_refl _
        · rw [if_neg c]
          split
          · split <;> omega
          · omega)).1
      have e : wtS (R k) = sF (cs (R k)) ((10 : Nat) : Int) := rfl
      rw [e] at p2
      exact Int.le_trans p1 (Int.le_trans p2 p3)
    · refine (sF_mono 10 (fun q q1 q2 => ?_)).1
      show (if q < n ∧ γ q = k then nf n S q else 0) ≤ (if q < n ∧ γ q = k then nf n W q else 0)
      by_cases c : q < n ∧ γ q = k
      · rw [if_pos c, if_pos c]
        have h1 := nf_nn n W q
        have h2 : nf n S q = 0 := by
          unfold nf
          rw [if_neg (fun z => ex_ ⟨q, ⟨q1, c.1⟩, c.2, z.2⟩)]
        omega
      · rw [if_neg c, if_neg c]
        exact Int.le_refl _
  have mono : ∀ k : Nat, (k : Int) ≤ n → sF (nf n S) 10 ≤ sF (fun h => if γ h < (k : Int) then nf n W h else nf n S h) 10 := by
    intro k
    induction k with
    | zero =>
      intro _
      refine Int.le_of_eq (sF_cg 10 (fun q q1 q2 => ?_))
      by_cases c : q < n
      · rw [if_neg (by have := (hγ q q1 c).1.1; omega)]
      · have e1 : nf n S q = 0 := by unfold nf; rw [if_neg (by omega)]
        have e2 : nf n W q = 0 := by unfold nf; rw [if_neg (by omega)]
        split <;> omega
    | succ k ih =>
      intro hk
      refine Int.le_trans (ih (by omega)) ?_
      have g := grp (k : Int) (by omega) (by omega)
      have e1 : sF (fun h => if γ h < (k : Int) then nf n W h else nf n S h) 10 = sF (fun h => if h < n ∧ γ h = (k : Int) then 0 else (if γ h < (k : Int) then nf n W h else nf n S h)) 10 + sF (fun h => if h < n ∧ γ h = (k : Int) then nf n S h else 0) 10 := by
        refine Eq.trans (sF_cg 10 (fun q q1 q2 => ?_)) (sF_add (fun h => if h < n ∧ γ h = (k : Int) then 0 else (if γ h < (k : Int) then nf n W h else nf n S h)) (fun h => if h < n ∧ γ h = (k : Int) then nf n S h else 0) 10)
        by_cases c : q < n ∧ γ q = (k : Int)
        · rw [if_pos c, if_pos c, if_neg (by omega)]; omega
        · rw [if_neg c, if_neg c]; omega
      have e2 : sF (fun h => if γ h < ((k + 1 : Nat) : Int) then nf n W h else nf n S h) 10 = sF (fun h => if h < n ∧ γ h = (k : Int) then 0 else (if γ h < (k : Int) then nf n W h else nf n S h)) 10 + sF (fun h => if h < n ∧ γ h = (k : Int) then nf n W h else 0) 10 := by
        refine Eq.trans (sF_cg 10 (fun q q1 q2 => ?_)) (sF_add (fun h => if h < n ∧ γ h = (k : Int) then 0 else (if γ h < (k : Int) then nf n W h else nf n S h)) (fun h => if h < n ∧ γ h = (k : Int) then nf n W h else 0) 10)
        by_cases c : q < n ∧ γ q = (k : Int)
        · rw [if_pos c, if_pos c, if_pos (by omega)]; omega
        · rw [if_neg c, if_neg c]
          by_cases c2 : q < n
          · by_cases c3 : γ q < (k : Int)
            · rw [if_pos c3, if_pos (by omega)]; omega
            · rw [if_neg c3, if_neg (by omega)]; omega
          · have e1 : nf n S q = 0 := by unfold nf; rw [if_neg (by omega)]
            have e2 : nf n W q = 0 := by unfold nf; rw [if_neg (by omega)]
            rw [e1, e2]
            split <;> split <;> omega
      rw [e1, e2]
      omega
  have m1 := mono n.toNat (by omega)
  have m2 : sF (fun h => if γ h < ((n.toNat : Nat) : Int) then nf n W h else nf n S h) 10 = sF (nf n W) 10 := by
    refine sF_cg 10 (fun q q1 q2 => ?_)
    by_cases c : q < n
    · rw [if_pos (by have := (hγ q q1 c).1.2; omega)]
    · have e1 : nf n S q = 0 := by unfold nf; rw [if_neg (by omega)]
      have e2 : nf n W q = 0 := by unfold nf; rw [if_neg (by omega)]
      rw [e1, e2]
      split <;> rfl
  rw [m2] at m1
  omega
end WM
