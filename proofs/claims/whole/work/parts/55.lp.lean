/-! loops in general; scratch cells -/
def fo {S : Type} (f : Int → S → S) : Int → Nat → S → S
  | _, 0, s => s
  | i, d + 1, s => fo f (i + 1) d (f i s)
theorem lp {S : Type} {P : Int → S → List (Option Value) → Prop} {inv : Int → S → Prop} {f : Int → S → S} {n : Int} {X : Prop}
    (hs : ∀ i s t, i < n → inv i s → (∀ s' t', s' = f i s → P (i + 1) s' t' = X) → P i s t = X)
    (hi : ∀ i s, i < n → inv i s → inv (i + 1) (f i s)) :
    ∀ (d : Nat) (i : Int) (s : S) (t : List (Option Value)), i + d = n → inv i s → (inv n (fo f i d s) → ∀ t', P n (fo f i d s) t' = X) → P i s t = X
  | 0, i, s, t, h1, h2, h3 => by
    have e : i = n := by omega
    subst e
    exact h3 h2 t
  | d + 1, i, s, t, h1, h2, h3 => by
    refine hs i s t (by omega) h2 (fun s' t' e => ?_)
    subst e
    exact lp hs hi d (i + 1) (f i s) t' (by omega) (hi i s (by omega) h2) h3
theorem t2 {A B : Type} {a a' : A} {b b' : B} (h1 : a = a') (h2 : b = b') : (a, b) = (a', b') := by rw [h1, h2]
theorem t3 {A B C : Type} {a a' : A} {b b' : B} {c c' : C} (h1 : a = a') (h2 : b = b') (h3 : c = c') : (a, b, c) = (a', b', c') := by rw [h1, h2, h3]
theorem t4 {A B C D : Type} {a a' : A} {b b' : B} {c c' : C} {d d' : D} (h1 : a = a') (h2 : b = b') (h3 : c = c') (h4 : d = d') : (a, b, c, d) = (a', b', c', d') := by rw [h1, h2, h3, h4]
theorem fo_inv {S : Type} {inv : Int → S → Prop} {f : Int → S → S} {n : Int} (hi : ∀ i s, i < n → inv i s → inv (i + 1) (f i s)) : ∀ (d : Nat) (i : Int) (s : S), i + d = n → inv i s → inv n (fo f i d s)
  | 0, i, s, h1, h2 => by
    have e : i = n := by omega
    subst e
    exact h2
  | d + 1, i, s, h1, h2 => fo_inv hi d (i + 1) (f i s) (by omega) (hi i s (by omega) h2)
theorem fo_congr {S : Type} {f g : Int → S → S} {n : Int} (h : ∀ i s, i < n → f i s = g i s) : ∀ (d : Nat) (i : Int) (s : S), i + d ≤ n → fo f i d s = fo g i d s
  | 0, i, s, _ => rfl
  | d + 1, i, s, h1 => by
    show fo f (i + 1) d (f i s) = fo g (i + 1) d (g i s)
    rw [h i s (by omega)]
    exact fo_congr h d (i + 1) _ (by omega)
/-- cells that no later call depends on -/
def scr (k : Nat) (j : Int) : Prop := k = 5 ∨ k = 31 ∨ k = 38 ∨ k = 39 ∨ k = 46 ∨ k = 47 ∨ k = 59 ∨ k = 65 ∨ k = 66 ∨ k = 67 ∨ (k = 7 ∧ (j = 1 ∨ j = 2 ∨ j = 3)) ∨ (k = 3 ∧ (j = 1 ∨ j = 2 ∨ j = 3 ∨ j = 4)) ∨ (k = 51 ∧ 12 ≤ j ∧ j ≤ 22)
def Same (ρ ρ' : rm) : Prop := ∀ k j, ¬ scr k j → ρ' k j = ρ k j
theorem Same.refl (ρ : rm) : Same ρ ρ := fun _ _ _ => rfl
theorem Same.trans {a b c : rm} (h1 : Same a b) (h2 : Same b c) : Same a c := fun k j h => (h2 k j h).trans (h1 k j h)
theorem Same.up {ρ ρ' : rm} (h : Same ρ ρ') {k : Nat} {i : Int} (x : Int) (hk : scr k i) : Same ρ (rup ρ' k i x) := fun a j ha => by
  rw [← h a j ha]
  unfold rup
  split
  · rename_i z
    rw [z.1, z.2] at ha
    exact absurd hk ha
  · rfl
theorem Same.fn {ρ ρ' : rm} (h : Same ρ ρ') {k : Nat} (hk : ∀ j, ¬ scr k j) : ρ' k = ρ k := funext fun j => h k j (hk j)
theorem RR_same {ρ ρ' : rm} (h : RR ρ) (hT : TI ρ') (hs : Same ρ ρ') : RR ρ' := by
  have e10 := hs.fn (k := 10) (fun j => by unfold scr; omega)
  have e11 := hs.fn (k := 11) (fun j => by unfold scr; omega)
  have e12 := hs.fn (k := 12) (fun j => by unfold scr; omega)
  have e13 := hs.fn (k := 13) (fun j => by unfold scr; omega)
  have e14 := hs.fn (k := 14) (fun j => by unfold scr; omega)
  have e15 := hs.fn (k := 15) (fun j => by unfold scr; omega)
  have e52 := hs.fn (k := 52) (fun j => by unfold scr; omega)
  have e53 := hs.fn (k := 53) (fun j => by unfold scr; omega)
  have e54 := hs.fn (k := 54) (fun j => by unfold scr; omega)
  have e57 := hs.fn (k := 57) (fun j => by unfold scr; omega)
  have e27 := hs.fn (k := 27) (fun j => by unfold scr; omega)
  have e28 := hs.fn (k := 28) (fun j => by unfold scr; omega)
  have e29 := hs.fn (k := 29) (fun j => by unfold scr; omega)
  have e30 := hs.fn (k := 30) (fun j => by unfold scr; omega)
  have e55 := hs.fn (k := 55) (fun j => by unfold scr; omega)
  have e32 := hs.fn (k := 32) (fun j => by unfold scr; omega)
  have e33 := hs.fn (k := 33) (fun j => by unfold scr; omega)
  have e34 := hs.fn (k := 34) (fun j => by unfold scr; omega)
  have e35 := hs.fn (k := 35) (fun j => by unfold scr; omega)
  have e36 := hs.fn (k := 36) (fun j => by unfold scr; omega)
  have e56 := hs.fn (k := 56) (fun j => by unfold scr; omega)
  have e37 := hs.fn (k := 37) (fun j => by unfold scr; omega)
  have e58 := hs.fn (k := 58) (fun j => by unfold scr; omega)
  have e40 := hs.fn (k := 40) (fun j => by unfold scr; omega)
  have e41 := hs.fn (k := 41) (fun j => by unfold scr; omega)
  have e60 := hs.fn (k := 60) (fun j => by unfold scr; omega)
  have e61 := hs.fn (k := 61) (fun j => by unfold scr; omega)
  have e42 := hs.fn (k := 42) (fun j => by unfold scr; omega)
  have e62 := hs.fn (k := 62) (fun j => by unfold scr; omega)
  have e43 := hs.fn (k := 43) (fun j => by unfold scr; omega)
  have e44 := hs.fn (k := 44) (fun j => by unfold scr; omega)
  have e45 := hs.fn (k := 45) (fun j => by unfold scr; omega)
  have e63 := hs.fn (k := 63) (fun j => by unfold scr; omega)
  have e48 := hs.fn (k := 48) (fun j => by unfold scr; omega)
  have e49 := hs.fn (k := 49) (fun j => by unfold scr; omega)
  have e50 := hs.fn (k := 50) (fun j => by unfold scr; omega)
  have e64 := hs.fn (k := 64) (fun j => by unfold scr; omega)
  have er : (fun a b : Int => ρ' (17 + (min a 9).toNat) b) = fun a b => ρ (17 + (min a 9).toNat) b := by
    funext a b
    exact hs _ b (by unfold scr; omega)
  have f1 := hs 1 1 (by unfold scr; omega)
  have f2 := hs 1 2 (by unfold scr; omega)
  have f3 := hs 51 0 (by unfold scr; omega)
  have f4 := hs 51 3 (by unfold scr; omega)
  have f5 := hs 2 4 (by unfold scr; omega)
  have f6 := hs 51 5 (by unfold scr; omega)
  have f7 := hs 3 0 (by unfold scr; omega)
  have f8 := hs 51 7 (by unfold scr; omega)
  have f9 := hs 4 1 (by unfold scr; omega)
  have g1 := hs 51 10 (by unfold scr; omega)
  have g2 := hs 6 0 (by unfold scr; omega)
  have g3 := hs 51 24 (by unfold scr; omega)
  have g4 := hs 6 1 (by unfold scr; omega)
  have g5 := hs 51 25 (by unfold scr; omega)
  have g6 := hs 7 0 (by unfold scr; omega)
  have g7 := hs 51 28 (by unfold scr; omega)
  have g8 := hs 8 0 (by unfold scr; omega)
  have g9 := hs 51 30 (by unfold scr; omega)
  have k1 := hs 9 0 (by unfold scr; omega)
  have k2 := hs 51 32 (by unfold scr; omega)
  refine ⟨hT, ?_, ?_, ?_, ?_, ?_, ?_, ?_, ?_, ?_⟩
  · unfold RH; rw [f1, f2, f3, f4, e10, e11, e12, e13, e14, e15, e52, e53, e54, e57, er]; exact h.2.1
  · unfold RD; rw [f3, f5, f6, e27, e28, e29, e55]; exact h.D
  · unfold RO; rw [f5, e30, e27, e28, e10]; exact h.O
  · unfold RS; rw [f3, f7, f8, e32, e33, e34, e35, e36, e56]; exact h.S
  · unfold RT; rw [f9, g1, e37, e58]; exact h.T
  · unfold RW; rw [f3, g2, g3, g4, g5, e40, e41, e60, e61]; exact h.W
  · unfold RK; rw [f3, g6, g7, e42, e62]; exact h.K
  · unfold RB; rw [f3, g8, g9, e43, e44, e45, e63, e52]; exact h.B
  · unfold RG; rw [f3, k1, k2, e48, e49, e50, e64, e52]; exact h.G
