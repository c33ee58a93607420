/-! bells tie houses: the class -/
def Gd (n m : Int) (f s p : Int → Int) (r : Int) (γ α : Int → Int) : Prop :=
  (∀ h, 0 ≤ h → h < n → γ h = -1 ∨ ((0 ≤ γ h ∧ γ h < n) ∧ γ (γ h) = γ h)) ∧
  (∀ k, 0 ≤ k → k < m → (γ (f k) ≠ -1 → γ (f k) ≠ r → γ (s k) = γ (f k)) ∧ (γ (s k) ≠ -1 → γ (s k) ≠ r → γ (f k) = γ (s k))) ∧
  (∀ β : Int → Int, (∀ k, 0 ≤ k → k < m → β (f k) = β (s k)) → ∀ h, 0 ≤ h → h < n → γ h ≠ -1 → β h = β (γ h)) ∧
  (∀ φ : Int → Int, (∀ k, 0 ≤ k → k < m → (φ (f k) - p k - φ (s k)) % 1440 = 0) → ∀ h, 0 ≤ h → h < n → γ h ≠ -1 → (α h - φ h + φ (γ h)) % 1440 = 0) ∧
  (∀ h, 0 ≤ h → h < n → γ h ≠ -1 → 0 ≤ α h ∧ α h < 1440)
def up1 (g : Int → Int) (i x : Int) : Int → Int := fun j => if j = i then x else g j
theorem up1_s (g : Int → Int) (i x : Int) : up1 g i x i = x := if_pos rfl
theorem up1_n (g : Int → Int) {i j : Int} (x : Int) (h : j ≠ i) : up1 g i x j = g j := if_neg h
/-- a bell read from one side -/
def sd (m : Int) (f s p : Int → Int) (u v d : Int) : Prop := ∃ k, (0 ≤ k ∧ k < m) ∧ ((u = f k ∧ v = s k ∧ d = -p k) ∨ (u = s k ∧ v = f k ∧ d = p k))
theorem gd_tie {n m r u v d : Int} {f s p γ α : Int → Int} (hE : ∀ k, 0 ≤ k → k < m → (0 ≤ f k ∧ f k < n) ∧ (0 ≤ s k ∧ s k < n)) (hr : 0 ≤ r) (h : Gd n m f s p r γ α) (hs : sd m f s p u v d) (hu : γ u ≠ -1) (hv : γ v = -1) : Gd n m f s p r (up1 γ v (γ u)) (up1 α v ((α u + d) % 1440)) := by
  obtain ⟨h1, h2, h3, h4, h5⟩ := h
  obtain ⟨k, hk, hs⟩ := hs
  have e := hE k hk.1 hk.2
  have ub : 0 ≤ u ∧ u < n := by rcases hs with ⟨z1, z2, z3⟩ | ⟨z1, z2, z3⟩ <;> rw [z1] <;> omega
  have c := h2 k hk.1 hk.2
  have ur : γ u = r := by
    refine Classical.byContradiction (fun z => ?_)
    rcases hs with ⟨z1, z2, z3⟩ | ⟨z1, z2, z3⟩
    · rw [z1] at hu z
      rw [z2] at hv
      have := c.1 hu z
      rw [hv] at this
      exact hu this.symm
    · rw [z1] at hu z
      rw [z2] at hv
      have := c.2 hu z
      rw [hv] at this
      exact hu this.symm
  have rr := (h1 u ub.1 ub.2).resolve_left hu
  rw [ur] at rr
  have rv : r ≠ v := fun z => by rw [z] at rr; rw [hv] at rr; have := rr.2; omega
  rw [ur]
  have key : ∀ j, up1 γ v r j ≠ -1 → j ≠ v → γ j ≠ -1 ∧ up1 γ v r j = γ j := fun j z1 z2 => by
    rw [up1_n _ _ z2] at z1
    exact ⟨z1, up1_n _ _ z2⟩
  refine ⟨fun x x1 x2 => ?_, fun j j1 j2 => ⟨fun z1 z2 => ?_, fun z1 z2 => ?_⟩, fun β hβ x x1 x2 x3 => ?_, fun φ hφ x x1 x2 x3 => ?_, fun x x1 x2 x3 => ?_⟩
  · by_cases c1 : x = v
    · rw [c1, up1_s]
      right
      refine ⟨rr.1, ?_⟩
      rw [up1_n _ _ rv]
      exact rr.2
    · rw [up1_n _ _ c1]
      rcases h1 x x1 x2 with z | z
      · exact Or.inl z
      · right
        refine ⟨z.1, ?_⟩
        rw [up1_n _ _ (fun y => by rw [y, hv] at z; omega)]
        exact z.2
  · have n1 : f j ≠ v := fun y => by rw [y, up1_s] at z2; exact z2 rfl
    rw [up1_n _ _ n1] at z1 z2 ⊢
    have := (h2 j j1 j2).1 z1 z2
    rw [up1_n _ _ (fun y => by rw [y, hv] at this; exact z1 this.symm)]
    exact this
  · have n1 : s j ≠ v := fun y => by rw [y, up1_s] at z2; exact z2 rfl
    rw [up1_n _ _ n1] at z1 z2 ⊢
    have := (h2 j j1 j2).2 z1 z2
    rw [up1_n _ _ (fun y => by rw [y, hv] at this; exact z1 this.symm)]
    exact this
  · by_cases c1 : x = v
    · rw [c1, up1_s]
      have a1 := h3 β hβ u ub.1 ub.2 hu
      rw [ur] at a1
      have a2 := hβ k hk.1 hk.2
      rcases hs with ⟨z1, z2, z3⟩ | ⟨z1, z2, z3⟩
      · rw [z2, ← a2, ← z1]; exact a1
      · rw [z2, a2, ← z1]; exact a1
    · rw [up1_n _ _ c1] at x3 ⊢
      exact h3 β hβ x x1 x2 x3
  · by_cases c1 : x = v
    · rw [c1, up1_s, up1_s]
      have a1 := h4 φ hφ u ub.1 ub.2 hu
      rw [ur] at a1
      have a2 := hφ k hk.1 hk.2
      rcases hs with ⟨z1, z2, z3⟩ | ⟨z1, z2, z3⟩
      · rw [← z1, ← z2] at a2
        omega
      · rw [← z1, ← z2] at a2
        omega
    · rw [up1_n _ _ c1] at x3 ⊢
      rw [up1_n _ _ c1]
      exact h4 φ hφ x x1 x2 x3
  · by_cases c1 : x = v
    · rw [c1, up1_s]
      omega
    · rw [up1_n _ _ c1] at x3
      rw [up1_n _ _ c1]
      exact h5 x x1 x2 x3
/-- a new root -/
theorem gd_root {n m r : Int} {f s p γ α : Int → Int} (hE : ∀ k, 0 ≤ k → k < m → (0 ≤ f k ∧ f k < n) ∧ (0 ≤ s k ∧ s k < n)) (hr : 0 ≤ r ∧ r < n) (h : Gd n m f s p (-2) γ α) (hv : γ r = -1) : Gd n m f s p r (up1 γ r r) (up1 α r 0) := by
  obtain ⟨h1, h2, h3, h4, h5⟩ := h
  refine ⟨fun x x1 x2 => ?_, fun j j1 j2 => ⟨fun z1 z2 => ?_, fun z1 z2 => ?_⟩, fun β hβ x x1 x2 x3 => ?_, fun φ hφ x x1 x2 x3 => ?_, fun x x1 x2 x3 => ?_⟩
  · by_cases c1 : x = r
    · rw [c1, up1_s, up1_s]
      exact Or.inr ⟨hr, rfl⟩
    · rw [up1_n _ _ c1]
      rcases h1 x x1 x2 with z | z
      · exact Or.inl z
      · right
        refine ⟨z.1, ?_⟩
        rw [up1_n _ _ (fun y => by rw [y, hv] at z; omega)]
        exact z.2
  · have n1 : f j ≠ r := fun y => by rw [y, up1_s] at z2; exact z2 rfl
    rw [up1_n _ _ n1] at z1 z2 ⊢
    have e := (hE j j1 j2).1
    have z3 : γ (f j) ≠ -2 := by have := h1 (f j) e.1 e.2; omega
    have := (h2 j j1 j2).1 z1 z3
    rw [up1_n _ _ (fun y => by rw [y, hv] at this; exact z1 this.symm)]
    exact this
  · have n1 : s j ≠ r := fun y => by rw [y, up1_s] at z2; exact z2 rfl
    rw [up1_n _ _ n1] at z1 z2 ⊢
    have e := (hE j j1 j2).2
    have z3 : γ (s j) ≠ -2 := by have := h1 (s j) e.1 e.2; omega
    have := (h2 j j1 j2).2 z1 z3
    rw [up1_n _ _ (fun y => by rw [y, hv] at this; exact z1 this.symm)]
    exact this
  · by_cases c1 : x = r
    · rw [c1, up1_s]
    · rw [up1_n _ _ c1] at x3 ⊢
      exact h3 β hβ x x1 x2 x3
  · by_cases c1 : x = r
    · rw [c1, up1_s, up1_s]
      omega
    · rw [up1_n _ _ c1] at x3 ⊢
      rw [up1_n _ _ c1]
      exact h4 φ hφ x x1 x2 x3
  · by_cases c1 : x = r
    · rw [c1, up1_s]
      omega
    · rw [up1_n _ _ c1] at x3
      rw [up1_n _ _ c1]
      exact h5 x x1 x2 x3
def stb (f s γ : Int → Int) (k : Int) : Prop := γ (f k) = -1 ↔ γ (s k) = -1
def Stb (m : Int) (f s γ : Int → Int) : Prop := ∀ k, 0 ≤ k → k < m → stb f s γ k
/-- a group is closed -/
theorem gd_close {n m r : Int} {f s p γ α : Int → Int} (h : Gd n m f s p r γ α) (hs : Stb m f s γ) : Gd n m f s p (-2) γ α := by
  obtain ⟨h1, h2, h3, h4, h5⟩ := h
  refine ⟨h1, fun j j1 j2 => ?_, h3, h4, h5⟩
  have a := h2 j j1 j2
  have b := hs j j1 j2
  unfold stb at b
  constructor
  · intro z1 _
    by_cases c : γ (f j) = r
    · have z3 : γ (s j) ≠ -1 := fun y => z1 (b.mpr y)
      by_cases c2 : γ (s j) = r
      · rw [c, c2]
      · exact (a.2 z3 c2).symm
    · exact a.1 z1 c
  · intro z1 _
    by_cases c : γ (s j) = r
    · have z3 : γ (f j) ≠ -1 := fun y => z1 (b.mp y)
      by_cases c2 : γ (f j) = r
      · rw [c, c2]
      · exact (a.1 z3 c2).symm
    · exact a.2 z1 c
/-- how many houses are tied -/
def tN (n : Int) (γ : Int → Int) : Int := sF (fun h => if γ h = -1 then 0 else 1) n
theorem tN_le {n : Int} (γ : Int → Int) (hn : 0 ≤ n) : tN n γ ≤ n := by
  obtain ⟨k, rfl⟩ : ∃ k : Nat, n = k := ⟨n.toNat, by omega⟩
  have := (sF_mono (g := fun h => if γ h = -1 then 0 else 1) (g' := fun _ => 1) k (fun q _ _ => by show (if γ q = -1 then (0 : Int) else 1) ≤ 1; split <;> omega)).1
  rw [sF_one] at this
  exact this
theorem tN_up {n v x : Int} {γ : Int → Int} (hv : 0 ≤ v ∧ v < n) (h1 : γ v = -1) (h2 : x ≠ -1) : tN n γ + 1 ≤ tN n (up1 γ v x) := by
  obtain ⟨k, rfl⟩ : ∃ k : Nat, n = k := ⟨n.toNat, by omega⟩
  have := (sF_mono (g := fun h => if γ h = -1 then 0 else 1) (g' := fun h => if up1 γ v x h = -1 then 0 else 1) k (fun q _ _ => by
    show (if γ q = -1 then (0 : Int) else 1) ≤ (if up1 γ v x q = -1 then 0 else 1)
    by_cases c : q = v
    · rw [c, h1, if_pos rfl]
      split <;> omega
    · rw [up1_n _ _ c]
      exact Int.le_refl _)).2 v hv.1 hv.2 (by
    show (if γ v = -1 then (0 : Int) else 1) < (if up1 γ v x v = -1 then 0 else 1)
    rw [if_pos h1, up1_s, if_neg h2]
    decide)
  unfold tN
  omega
theorem tN_pos {n v : Int} {γ : Int → Int} (hv : 0 ≤ v ∧ v < n) (h1 : γ v ≠ -1) : 1 ≤ tN n γ := by
  obtain ⟨k, rfl⟩ : ∃ k : Nat, n = k := ⟨n.toNat, by omega⟩
  have := (sF_mono (g := fun _ => 0) (g' := fun h => if γ h = -1 then 0 else 1) k (fun q _ _ => by
    show (0 : Int) ≤ (if γ q = -1 then 0 else 1)
    split <;> omega)).2 v hv.1 hv.2 (by
    show (0 : Int) < (if γ v = -1 then 0 else 1)
    rw [if_neg h1]
    decide)
  rw [sF_zero] at this
  unfold tN
  omega
theorem rup_up1 (ρ : rm) (k : Nat) (v x : Int) : rup ρ k v x k = up1 (ρ k) v x := by
  funext j
  unfold rup up1
  by_cases c : j = v
  · rw [if_pos ⟨rfl, c⟩, if_pos c]
  · rw [if_neg (fun z => c z.2), if_neg c]
def Bok (ρ : rm) : Prop := ∀ k, 0 ≤ k → k < ρ 8 0 → (0 ≤ ρ 43 k ∧ ρ 43 k < ρ 1 1) ∧ (0 ≤ ρ 44 k ∧ ρ 44 k < ρ 1 1)
def GM (ρ0 : rm) (r : Int) (ρ : rm) : Prop := TI ρ ∧ (∀ a j, ¬ (a = 46 ∨ a = 47) → ρ a j = ρ0 a j) ∧ Gd (ρ0 1 1) (ρ0 8 0) (ρ0 43) (ρ0 44) (ρ0 45) r (ρ 46) (ρ 47)
section TG
variable {Q : Option Value → mm → Prop} {τ : Int64} {ρ0 ρ1 : rm} {r : Int}
/-- a tie within a pass that began at ρ1 -/
def PA (ρ0 ρ1 : rm) (r : Int) (X : Prop) (ρ : rm) : Prop := GM ρ0 r ρ ∧ (∀ h, ρ1 46 h ≠ -1 → ρ 46 h = ρ1 46 h) ∧ ((ρ 46 = ρ1 46 ∧ X) ∨ (¬ Stb (ρ0 8 0) (ρ0 43) (ρ0 44) (ρ1 46) ∧ tN (ρ0 1 1) (ρ1 46) + 1 ≤ tN (ρ0 1 1) (ρ 46)))
theorem c_tie {ρ : rm} {u v d k : Int} {X : Prop} (hn : 2 ≤ ρ0 1 1 ∧ ρ0 1 1 ≤ 10) (hB : Bok ρ0) (hr : 0 ≤ r) (hk : 0 ≤ k ∧ k < ρ0 8 0) (hs : (u = ρ0 43 k ∧ v = ρ0 44 k ∧ d = -ρ0 45 k) ∨ (u = ρ0 44 k ∧ v = ρ0 43 k ∧ d = ρ0 45 k)) (hd : -1440 ≤ d ∧ d ≤ 1440) (h : PA ρ0 ρ1 r X ρ)
    (H : ∀ ρ', PA ρ0 ρ1 r (X ∧ (ρ1 46 u = -1 ∨ ρ1 46 v ≠ -1)) ρ' → Q none (toM ρ' τ)) : G 6 0 [some (.ref 8), some (vI u), some (vI v), some (vI d)] [] (toM ρ τ) Q := by
  obtain ⟨⟨hT, hF, hG⟩, hm, hc⟩ := h
  have e := hB k hk.1 hk.2
  have ub : 0 ≤ u ∧ u < ρ0 1 1 := by rcases hs with ⟨z1, z2, z3⟩ | ⟨z1, z2, z3⟩ <;> rw [z1] <;> omega
  have vb : 0 ≤ v ∧ v < ρ0 1 1 := by rcases hs with ⟨z1, z2, z3⟩ | ⟨z1, z2, z3⟩ <;> rw [z2] <;> omega
  have su : SM u := ⟨by omega, by omega⟩
  have sv : SM v := ⟨by omega, by omega⟩
  have sd_ : SM d := ⟨by omega, by omega⟩
  have r46 : -1 ≤ ρ 46 u ∧ ρ 46 u ≤ 9 := hT.2 46 u
  have r47 : 0 ≤ ρ 47 u ∧ ρ 47 u ≤ 1439 := hT.2 47 u
  have same : (ρ 46 u = -1 ∨ ρ 46 v ≠ -1) → Q none (toM ρ τ) := fun z => by
    refine H ρ ⟨⟨hT, hF, hG⟩, hm, ?_⟩
    rcases hc with ⟨c1, c2⟩ | c
    · exact Or.inl ⟨c1, c2, by rw [c1] at z; exact z⟩
    · exact Or.inr c
  rw [b6_0 ρ τ u v d hT.1 su sv sd_, if_pos (by omega)]
  by_cases c1 : ρ 46 u = -1
  · rw [if_pos c1]
    exact same (Or.inl c1)
  · rw [if_neg c1, if_pos (by omega)]
    by_cases c2 : ρ 46 v = -1
    · have hT2 := TI_up hT 46 v (x := ρ 46 u) (show -1 ≤ ρ 46 u ∧ ρ 46 u ≤ 9 by omega) (by omega)
      have hT3 := TI_up hT2 47 v (x := (ρ 47 u + d) % 1440) (show 0 ≤ (ρ 47 u + d) % 1440 ∧ (ρ 47 u + d) % 1440 ≤ 1439 by omega) (by omega)
      rw [if_pos c2, if_pos (by omega), if_pos (by omega), if_pos (by omega), c_fmod hT2.1 ⟨by omega, by omega⟩, b6_51 _ τ u v d [] v _ hT2.1 su sv sd_ sv ⟨by omega, by omega⟩, if_pos (by omega)]
      have e46 : rup (rup ρ 46 v (ρ 46 u)) 47 v ((ρ 47 u + d) % 1440) 46 = up1 (ρ 46) v (ρ 46 u) := by rw [rup_fn (by decide), rup_up1]
      have e47 : rup (rup ρ 46 v (ρ 46 u)) 47 v ((ρ 47 u + d) % 1440) 47 = up1 (ρ 47) v ((ρ 47 u + d) % 1440) := by rw [rup_up1, rup_fn (by decide)]
      have up := tN_up (γ := ρ 46) vb c2 c1
      refine H _ ⟨⟨hT3, fun a j ha => ?_, ?_⟩, fun x hx => ?_, Or.inr ?_⟩
      · rw [rup_ne _ _ _ _ (fun z => ha (Or.inr z)), rup_ne _ _ _ _ (fun z => ha (Or.inl z))]
        exact hF a j ha
      · rw [e46, e47]
        exact gd_tie hB hr hG ⟨k, hk, hs⟩ c1 c2
      · have := hm x hx
        rw [e46, up1_n _ _ (fun z => by rw [z] at this hx; rw [c2] at this; exact hx this.symm)]
        exact this
      · rw [e46]
        rcases hc with ⟨c3, -⟩ | c
        · refine ⟨fun z => ?_, by rw [← c3]; exact up⟩
          have y := z k hk.1 hk.2
          unfold stb at y
          rw [← c3] at y
          rcases hs with ⟨z1, z2, z3⟩ | ⟨z1, z2, z3⟩
          · rw [z1] at c1
            rw [z2] at c2
            exact c1 (y.mpr c2)
          · rw [z1] at c1
            rw [z2] at c2
            exact c1 (y.mp c2)
        · exact ⟨c.1, by omega⟩
    · rw [if_neg c2]
      exact same (Or.inr c2)
theorem c_pass {l1 : Int} (hn : 2 ≤ ρ0 1 1 ∧ ρ0 1 1 ≤ 10) (hm8 : 0 ≤ ρ0 8 0 ∧ ρ0 8 0 ≤ 10) (hB : Bok ρ0) (hr : 0 ≤ r) (hl : 0 ≤ l1 ∧ l1 < 10) (hG : GM ρ0 r ρ1) (t : List (Option Value))
    (H : ∀ ρ2 t', GM ρ0 r ρ2 → (∀ h, ρ1 46 h ≠ -1 → ρ2 46 h = ρ1 46 h) → (Stb (ρ0 8 0) (ρ0 43) (ρ0 44) (ρ1 46) → ρ2 46 = ρ1 46) → (¬ Stb (ρ0 8 0) (ρ0 43) (ρ0 44) (ρ1 46) → tN (ρ0 1 1) (ρ1 46) + 1 ≤ tN (ρ0 1 1) (ρ2 46)) → G 5 2 (some (.ref 8) :: some (vI (l1 + 1)) :: t') [] (toM ρ2 τ) Q) :
    G 5 15 (some (.ref 8) :: some (vI l1) :: some (vI 0) :: t) [] (toM ρ1 τ) Q := by
  have sl : SM l1 := ⟨by omega, by omega⟩
  refine lpJ (S := rm) (P := fun j ρ' t => G 5 15 (some (.ref 8) :: some (vI l1) :: some (vI j) :: t) [] (toM ρ' τ) Q) (inv := fun j ρ' => 0 ≤ j ∧ PA ρ0 ρ1 r (∀ k, 0 ≤ k → k < j → stb (ρ0 43) (ρ0 44) (ρ1 46) k) ρ') (n := ρ0 8 0) ?_ (ρ0 8 0).toNat 0 ρ1 t (by omega) ⟨by omega, hG, fun _ _ => rfl, Or.inl ⟨rfl, fun k z1 z2 => by omega⟩⟩ ?_
  · rintro j ρ2 t h1 ⟨h0, hP⟩ H2
    obtain ⟨hT2, hF2, -⟩ := hP.1
    have e8 : ρ2 8 0 = ρ0 8 0 := hF2 8 0 (by omega)
    have p45 : 0 ≤ ρ0 45 j ∧ ρ0 45 j ≤ 1439 := by rw [← hF2 45 j (by omega)]; exact hT2.2 45 j
    have sj : SM j := ⟨by omega, by omega⟩
    show G 5 15 (some (.ref 8) :: some (vI l1) :: some (vI j) :: t) [] (toM ρ2 τ) Q
    rw [b5_15 ρ2 τ l1 j t hT2.1 sl sj, if_neg (by omega), if_pos (by omega), if_pos (by omega), if_pos (by omega), hF2 43 j (by omega), hF2 44 j (by omega), hF2 45 j (by omega)]
    refine c_tie hn hB hr ⟨h0, h1⟩ (Or.inl ⟨rfl, rfl, rfl⟩) (by omega) hP (fun ρ3 hP3 => ?_)
    obtain ⟨hT3, hF3, -⟩ := hP3.1
    show G 5 46 (some (.ref 8) :: some (vI l1) :: some (vI j) :: t) ((none : Option Value).toList ++ []) (toM ρ3 τ) Q
    rw [b5_46 ρ3 τ l1 j t hT3.1 sl sj, if_pos (by omega), if_pos (by omega), if_pos (by omega), hF3 43 j (by omega), hF3 44 j (by omega), hF3 45 j (by omega)]
    refine c_tie hn hB hr ⟨h0, h1⟩ (Or.inr ⟨rfl, rfl, rfl⟩) (by omega) hP3 (fun ρ4 hP4 => ?_)
    obtain ⟨hT4, hF4, -⟩ := hP4.1
    show G 5 68 (some (.ref 8) :: some (vI l1) :: some (vI j) :: t) ((none : Option Value).toList ++ []) (toM ρ4 τ) Q
    rw [b5_68 ρ4 τ l1 j t hT4.1 sl sj]
    refine H2 _ _ ⟨by omega, hP4.1, hP4.2.1, ?_⟩
    rcases hP4.2.2 with ⟨c1, ⟨c2, c3⟩, c4⟩ | c
    · refine Or.inl ⟨c1, fun k k1 k2 => ?_⟩
      by_cases c : k = j
      · rw [c]
        unfold stb
        constructor
        · intro z; rcases c4 with y | y
          · exact y
          · exact absurd z y
        · intro z; rcases c3 with y | y
          · exact y
          · exact absurd z y
      · exact c2 k k1 (by omega)
    · exact Or.inr c
  · rintro ρ2 t ⟨h0, hG2, hm2, hc⟩
    have hT2 := hG2.1
    have hF2 := hG2.2.1
    have e8 : ρ2 8 0 = ρ0 8 0 := hF2 8 0 (by omega)
    show G 5 15 (some (.ref 8) :: some (vI l1) :: some (vI (ρ0 8 0)) :: t) [] (toM ρ2 τ) Q
    rw [b5_15 ρ2 τ l1 _ t hT2.1 sl ⟨by omega, by omega⟩, if_pos (by omega)]
    refine H _ _ hG2 hm2 (fun z => ?_) (fun z => ?_)
    · rcases hc with ⟨c1, -⟩ | c
      · exact c1
      · exact absurd z c.1
    · rcases hc with ⟨-, c2⟩ | c
      · exact absurd c2 z
      · exact c.2
theorem c_spread (hn : 2 ≤ ρ0 1 1 ∧ ρ0 1 1 ≤ 10) (hm8 : 0 ≤ ρ0 8 0 ∧ ρ0 8 0 ≤ 10) (hB : Bok ρ0) (hr : 0 ≤ r ∧ r < ρ0 1 1) (hG : GM ρ0 r ρ1) (h1 : ρ1 46 r ≠ -1)
    (H : ∀ ρ2, GM ρ0 (-2) ρ2 → (∀ h, ρ1 46 h ≠ -1 → ρ2 46 h = ρ1 46 h) → Q none (toM ρ2 τ)) : G 5 0 [some (.ref 8)] [] (toM ρ1 τ) Q := by
  rw [b5_0 ρ1 τ hG.1.1]
  refine lpJ (S := rm) (P := fun i ρ' t => G 5 2 (some (.ref 8) :: some (vI i) :: t) [] (toM ρ' τ) Q) (inv := fun i ρ' => 0 ≤ i ∧ GM ρ0 r ρ' ∧ (∀ h, ρ1 46 h ≠ -1 → ρ' 46 h = ρ1 46 h) ∧ (Stb (ρ0 8 0) (ρ0 43) (ρ0 44) (ρ' 46) ∨ i + 1 ≤ tN (ρ0 1 1) (ρ' 46))) (n := ρ0 1 1) ?_ (ρ0 1 1).toNat 0 ρ1 [] (by omega) ⟨by omega, hG, fun _ _ => rfl, Or.inr (by have := tN_pos (γ := ρ1 46) hr h1; omega)⟩ ?_
  · rintro i ρ2 t z1 ⟨z2, hG2, hm2, hc⟩ H2
    have e1 : ρ2 1 1 = ρ0 1 1 := hG2.2.1 1 1 (by omega)
    show G 5 2 (some (.ref 8) :: some (vI i) :: t) [] (toM ρ2 τ) Q
    rw [b5_2 ρ2 τ i t hG2.1.1 ⟨by omega, by omega⟩, if_neg (by omega)]
    refine c_pass hn hm8 hB hr.1 (by omega) hG2 _ (fun ρ3 t' hG3 hm3 hs3 hu3 => ?_)
    refine H2 _ _ ⟨by omega, hG3, fun x hx => ?_, ?_⟩
    · have y := hm2 x hx
      rw [hm3 x (by rw [y]; exact hx)]
      exact y
    · by_cases c : Stb (ρ0 8 0) (ρ0 43) (ρ0 44) (ρ2 46)
      · left
        rw [hs3 c]
        exact c
      · right
        have := hu3 c
        rcases hc with y | y
        · exact absurd y c
        · omega
  · rintro ρ2 t ⟨z2, hG2, hm2, hc⟩
    have e1 : ρ2 1 1 = ρ0 1 1 := hG2.2.1 1 1 (by omega)
    show G 5 2 (some (.ref 8) :: some (vI (ρ0 1 1)) :: t) [] (toM ρ2 τ) Q
    rw [b5_2 ρ2 τ _ t hG2.1.1 ⟨by omega, by omega⟩, if_pos (by omega)]
    refine H _ ⟨hG2.1, hG2.2.1, gd_close hG2.2.2 ?_⟩ hm2
    rcases hc with y | y
    · exact y
    · have := tN_le (n := ρ0 1 1) (ρ2 46) (by omega)
      omega
theorem c_groups (hT0 : TI ρ0) (hB : Bok ρ0) (H : ∀ ρ2, GM ρ0 (-2) ρ2 → (∀ h, 0 ≤ h → h < ρ0 1 1 → ρ2 46 h ≠ -1) → Q none (toM ρ2 τ)) : G 4 0 [some (.ref 8)] [] (toM ρ0 τ) Q := by
  have hn : 2 ≤ ρ0 1 1 ∧ ρ0 1 1 ≤ 10 := hT0.2 1 1
  have hm8 : 0 ≤ ρ0 8 0 ∧ ρ0 8 0 ≤ 10 := hT0.2 8 0
  rw [b4_0 ρ0 τ hT0.1]
  refine lpJ (S := rm) (P := fun i ρ' t => G 4 2 (some (.ref 8) :: some (vI i) :: t) [] (toM ρ' τ) Q) (inv := fun i ρ' => 0 ≤ i ∧ TI ρ' ∧ (∀ a j, ¬ (a = 46 ∨ a = 47) → ρ' a j = ρ0 a j) ∧ ∀ h, 0 ≤ h → h < i → ρ' 46 h = -1) (n := ρ0 1 1) ?_ (ρ0 1 1).toNat 0 ρ0 [] (by omega) ⟨by omega, hT0, fun _ _ _ => rfl, fun h z1 z2 => by omega⟩ ?_
  · rintro i ρ1 t z1 ⟨z2, hT1, hF1, hc⟩ H2
    have e1 : ρ1 1 1 = ρ0 1 1 := hF1 1 1 (by omega)
    show G 4 2 (some (.ref 8) :: some (vI i) :: t) [] (toM ρ1 τ) Q
    rw [b4_2 ρ1 τ i t hT1.1 ⟨by omega, by omega⟩, if_neg (by omega), if_pos (by omega)]
    refine H2 _ _ ⟨by omega, TI_up hT1 46 i (x := -1) ⟨show (-1 : Int) ≤ -1 by decide, show (-1 : Int) ≤ 9 by decide⟩ (by omega), fun a j ha => ?_, fun x x1 x2 => ?_⟩
    · rw [rup_ne _ _ _ _ (fun z => ha (Or.inl z))]
      exact hF1 a j ha
    · by_cases c : x = i
      · rw [c, rup_same]
      · rw [rup_sl c]
        exact hc x x1 (by omega)
  · rintro ρ1 t ⟨z2, hT1, hF1, hc⟩
    have e1 : ρ1 1 1 = ρ0 1 1 := hF1 1 1 (by omega)
    show G 4 2 (some (.ref 8) :: some (vI (ρ0 1 1)) :: t) [] (toM ρ1 τ) Q
    rw [b4_2 ρ1 τ _ t hT1.1 ⟨by omega, by omega⟩, if_pos (by omega)]
    have g0 : GM ρ0 (-2) ρ1 := by
      refine ⟨hT1, hF1, fun x x1 x2 => Or.inl (hc x x1 x2), fun k k1 k2 => ?_, fun β _ x x1 x2 x3 => absurd (hc x x1 x2) x3, fun φ _ x x1 x2 x3 => absurd (hc x x1 x2) x3, fun x x1 x2 x3 => absurd (hc x x1 x2) x3⟩
      have e := hB k k1 k2
      exact ⟨fun z _ => absurd (hc _ e.1.1 e.1.2) z, fun z _ => absurd (hc _ e.2.1 e.2.2) z⟩
    refine lpJ (S := rm) (P := fun i ρ' t => G 4 28 (some (.ref 8) :: some (vI i) :: t) [] (toM ρ' τ) Q) (inv := fun i ρ' => 0 ≤ i ∧ GM ρ0 (-2) ρ' ∧ ∀ h, 0 ≤ h → h < i → ρ' 46 h ≠ -1) (n := ρ0 1 1) ?_ (ρ0 1 1).toNat 0 ρ1 _ (by omega) ⟨by omega, g0, fun h z1 z2 => by omega⟩ ?_
    · rintro i ρ2 t y1 ⟨y2, hG2, hc2⟩ H2
      have e1 : ρ2 1 1 = ρ0 1 1 := hG2.2.1 1 1 (by omega)
      show G 4 28 (some (.ref 8) :: some (vI i) :: t) [] (toM ρ2 τ) Q
      rw [b4_28 ρ2 τ i t hG2.1.1 ⟨by omega, by omega⟩, if_neg (by omega), if_pos (by omega)]
      by_cases c : ρ2 46 i = -1
      · rw [if_pos c, if_pos (by omega), if_pos (by omega)]
        have hT3 := TI_up (TI_up hG2.1 46 i (x := i) (show -1 ≤ i ∧ i ≤ 9 by omega) (by omega)) 47 i (x := 0) (show (0 : Int) ≤ 0 ∧ (0 : Int) ≤ 1439 by omega) (by omega)
        have e46 : rup (rup ρ2 46 i i) 47 i 0 46 = up1 (ρ2 46) i i := by rw [rup_fn (by decide), rup_up1]
        have e47 : rup (rup ρ2 46 i i) 47 i 0 47 = up1 (ρ2 47) i 0 := by rw [rup_up1, rup_fn (by decide)]
        refine c_spread hn hm8 hB ⟨y2, y1⟩ ⟨hT3, fun a j ha => ?_, ?_⟩ (by rw [e46, up1_s]; omega) (fun ρ3 hG3 hm3 => ?_)
        · rw [rup_ne _ _ _ _ (fun z => ha (Or.inr z)), rup_ne _ _ _ _ (fun z => ha (Or.inl z))]
          exact hG2.2.1 a j ha
        · rw [e46, e47]
          exact gd_root hB ⟨y2, y1⟩ hG2.2.2 c
        · show G 4 67 (some (.ref 8) :: some (vI i) :: t) ((none : Option Value).toList ++ []) (toM ρ3 τ) Q
          rw [b4_67 ρ3 τ i t hG3.1.1 ⟨by omega, by omega⟩]
          refine H2 _ _ ⟨by omega, hG3, fun x x1 x2 => ?_⟩
          have w : rup (rup ρ2 46 i i) 47 i 0 46 x ≠ -1 := by
            rw [e46]
            by_cases c5 : x = i
            · rw [c5, up1_s]; omega
            · rw [up1_n _ _ c5]; exact hc2 x x1 (by omega)
          rw [hm3 x w]
          exact w
      · rw [if_neg c]
        refine H2 _ _ ⟨by omega, hG2, fun x x1 x2 => ?_⟩
        by_cases c5 : x = i
        · rw [c5]; exact c
        · exact hc2 x x1 (by omega)
    · rintro ρ2 t ⟨y2, hG2, hc2⟩
      have e1 : ρ2 1 1 = ρ0 1 1 := hG2.2.1 1 1 (by omega)
      show G 4 28 (some (.ref 8) :: some (vI (ρ0 1 1)) :: t) [] (toM ρ2 τ) Q
      rw [b4_28 ρ2 τ _ t hG2.1.1 ⟨by omega, by omega⟩, if_pos (by omega)]
      exact H _ hG2 hc2
end TG
