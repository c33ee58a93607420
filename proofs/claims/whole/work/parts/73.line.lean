/-! a line: what it is, the class -/
def nOf (k : Int) : Int := if k = 1 then 1 else if k = 2 then 2 else if k = 3 then 2 else if k = 4 then 3 else if k = 5 then 3 else if k = 6 then 5 else 0
def lsO (k i : Int) : Int := if k = 1 then 2 else if k = 2 then (if i = 0 then 1 else 0) else if k = 3 then (if i = 0 then 0 else 1) else if k = 4 then (if i = 2 then 1 else 0) else 0
def grO (k i h : Int) : Int := if k = 1 then 10 else if k = 2 then (if i = 0 then h - 1 else 999) else if k = 3 then (if i = 0 then h - 2 else 99) else if k = 4 then (if 1 < i then 99 else h - 1) else if k = 5 then (if i = 0 then h - 1 else if i = 1 then 1439 else 99) else if k = 6 then (if i = 0 then h - 1 else if 2 < i then 99 else 1439) else -1
def lwO (k i n1 : Int) : Int := if k = 6 ∧ i = 2 then n1 + 1 else lsO k i
abbrev okN (k i n0 n1 h v : Int) : Prop := ¬ (k = 4 ∧ i = 1 ∧ v = n0) ∧ lwO k i n1 ≤ v ∧ v ≤ grO k i h
abbrev fuL (k w d s : Int) : Prop := (k = 4 ∧ 8 ≤ w) ∨ (k = 5 ∧ 10 ≤ d) ∨ (k = 6 ∧ 6 ≤ s)
def nh (k n0 h : Int) : Int := if k = 1 then n0 else h
def nw (k w : Int) : Int := if k = 1 then 0 else if k = 4 then w + 1 else w
def nd (k d : Int) : Int := if k = 1 ∨ k = 7 then 0 else if k = 5 then d + 1 else d
def ns (k s : Int) : Int := if k = 1 ∨ k = 7 then 0 else if k = 6 then s + 1 else s
theorem nOf_rg (k : Int) : 0 ≤ nOf k ∧ nOf k ≤ 5 := by unfold nOf; (repeat' split) <;> omega
theorem lsO_rg (k i : Int) : 0 ≤ lsO k i ∧ lsO k i ≤ 2 := by unfold lsO; (repeat' split) <;> omega
theorem grO_rg (k i : Int) {h : Int} (hh : 0 ≤ h ∧ h ≤ 10) : -2 ≤ grO k i h ∧ grO k i h ≤ 1439 := by unfold grO; (repeat' split) <;> omega
theorem okN_rg {k i n0 n1 h v : Int} (hh : 0 ≤ h ∧ h ≤ 10) (hn : i = 2 → 0 ≤ n1) (ho : okN k i n0 n1 h v) : 0 ≤ v ∧ v ≤ 1439 := by
  have h1 := lsO_rg k i
  have h2 := grO_rg k i hh
  have h3 := ho.2.1
  have h4 := ho.2.2
  unfold lwO at h3
  split at h3 <;> omega
theorem okN_cg {k i n0 n1 m0 m1 h v : Int} (h0 : i = 1 → n0 = m0) (h1 : i = 2 → n1 = m1) (ho : okN k i n0 n1 h v) : okN k i m0 m1 h v := by
  refine ⟨fun z => ho.1 ⟨z.1, z.2.1, by rw [h0 z.2.1]; exact z.2.2⟩, ?_, ho.2.2⟩
  have h3 := ho.2.1
  unfold lwO at h3 ⊢
  split at h3
  · rename_i c
    rw [if_pos c, ← h1 c.2]; exact h3
  · rename_i c
    rw [if_neg c]; exact h3
/-- the numbers of a line -/
def rdN (T : Int → Int) (n k h : Int) : Nat → Int → Int → (Int → Int) → Int ⊕ (Int × (Int → Int))
  | 0, _, p, N => .inr (p, N)
  | d + 1, i, p, N => if tkK T n (tkS T n p) = 2 ∧ okN k i (N 0) (N 1) h (tkV T n (tkS T n p)) then rdN T n k h d (i + 1) (tkE T n (tkS T n p)) (fun j => if j = i then tkV T n (tkS T n p) else N j) else .inl (tkS T n p)
/-- the numbers ahead of place i can stand there -/
def PN (k h : Int) (N : Int → Int) (i : Int) : Prop := ∀ j, 0 ≤ j → j < i → okN k j (N 0) (N 1) h (N j)
theorem PN_up {k h i v : Int} {N : Int → Int} (hi : 0 ≤ i) (hP : PN k h N i) (ho : okN k i (N 0) (N 1) h v) : PN k h (fun j => if j = i then v else N j) (i + 1) := by
  intro j j1 j2
  by_cases e : j = i
  · subst e
    show okN k j (if 0 = j then v else N 0) (if 1 = j then v else N 1) h (if j = j then v else N j)
    rw [if_pos rfl]
    exact okN_cg (fun z => by rw [if_neg (by omega)]) (fun z => by rw [if_neg (by omega)]) ho
  · show okN k j (if 0 = i then v else N 0) (if 1 = i then v else N 1) h (if j = i then v else N j)
    rw [if_neg e]
    exact okN_cg (fun z => by rw [if_neg (by omega)]) (fun z => by rw [if_neg (by omega)]) (hP j j1 (by omega))
theorem PN_rg {k h i : Int} {N : Int → Int} (hh : 0 ≤ h ∧ h ≤ 10) (hP : PN k h N i) {j : Int} (h1 : 0 ≤ j) (h2 : j < i) : 0 ≤ N j ∧ N j ≤ 1439 := by
  by_cases e : j = 2
  · have a1 := hP 1 (by omega) (by omega)
    have a2 := okN_rg hh (fun z => by omega) a1
    exact okN_rg hh (fun _ => a2.1) (hP j h1 h2)
  · exact okN_rg hh (fun z => absurd z e) (hP j h1 h2)
theorem rdN_ok {T : Int → Int} {n k h : Int} : ∀ (d : Nat) (i p : Int) (N : Int → Int) (p' : Int) (N' : Int → Int), 0 ≤ i → p ≤ n → PN k h N i → rdN T n k h d i p N = .inr (p', N') → PN k h N' (i + d) ∧ p ≤ p' ∧ p' ≤ n
  | 0, i, p, N, p', N', h0, hp, hP, e => by
    cases e
    exact ⟨by simpa using hP, Int.le_refl _, hp⟩
  | d + 1, i, p, N, p', N', h0, hp, hP, e => by
    unfold rdN at e
    split at e
    · rename_i c
      have b1 := tkS_bd (T := T) hp
      have b2 := tkE_bd (T := T) b1.2
      have := rdN_ok d (i + 1) _ _ p' N' (by omega) b2.2 (PN_up h0 hP c.2) e
      rw [show i + ((d + 1 : Nat) : Int) = i + 1 + d by omega]
      exact ⟨this.1, by omega, this.2.2⟩
    · cases e
/-- a line from place p on -/
def rdL (T : Int → Int) (n h w d s p : Int) : Int ⊕ (Int × Int × (Int → Int)) :=
  if kdT T n (tkS T n p) = 0 ∨ fuL (kdT T n (tkS T n p)) w d s then .inl (tkS T n p) else
  match rdN T n (kdT T n (tkS T n p)) h (nOf (kdT T n (tkS T n p))).toNat 0 (tkE T n (tkS T n p)) (fun _ => 0) with
  | .inl f => .inl f
  | .inr (p', N) => .inr (kdT T n (tkS T n p), p', N)
theorem tv_cg {p q : Prop} {i1 : Decidable p} {i2 : Decidable q} (h : p ↔ q) : @tv p i1 = @tv q i2 := by
  unfold tv
  by_cases c : p
  · rw [if_pos c, if_pos (h.mp c)]
  · rw [if_neg c, if_neg (fun z => c (h.mpr z))]
section LC
variable {ρ : rm} {τ : Int64} {Q : Option Value → mm → Prop}
theorem c_numOf (hB : BM ρ) {k : Int} (hk : SM k) : G 48 0 [some (vI k)] [] (toM ρ τ) Q = Q (some (vI (nOf k))) (toM ρ τ) := by
  rw [b48_0 ρ τ k hB hk]
  unfold nOf
  (repeat' split) <;> first | rfl | (exfalso; omega)
theorem c_lsO (hB : BM ρ) {k i : Int} (hk : SM k) (hi : SM i) : G 49 0 [some (vI k), some (vI i)] [] (toM ρ τ) Q = Q (some (vI (lsO k i))) (toM ρ τ) := by
  rw [b49_0 ρ τ k i hB hk hi]
  unfold lsO
  (repeat' split) <;> first | rfl | (exfalso; omega)
theorem c_great (hB : BM ρ) {k i : Int} (hk : SM k) (hi : SM i) : G 50 0 [some (.ref 5), some (vI k), some (vI i)] [] (toM ρ τ) Q = Q (some (vI (grO k i (ρ 5 8)))) (toM ρ τ) := by
  rw [b50_0 ρ τ k i hB hk hi]
  unfold grO
  (repeat' split) <;> first | rfl | (exfalso; omega)
theorem c_full (hB : BM ρ) {k : Int} (hk : SM k) : G 46 0 [some (.ref 5), some (vI k)] [] (toM ρ τ) Q = Q (some (vI (tv (fuL k (ρ 5 9) (ρ 5 10) (ρ 5 11))))) (toM ρ τ) := by
  rw [b46_0 ρ τ k hB hk]
  (repeat' split) <;> first | rw [tv_t (by omega)] | rw [tv_f (by omega)]
theorem c_stand (hT : TI ρ) {k i f : Int} (hk : SM k) (hi : SM i) (hf : 0 ≤ f ∧ f ≤ 45) : G 45 0 [some (.ref 5), some (vI k), some (vI i), some (vI f)] [] (toM ρ τ) Q = Q (some (vI (tv (okN k i (ρ 39 f) (ρ 39 (f + 1)) (ρ 5 8) (ρ 5 7))))) (toM ρ τ) := by
  have hv : -1 ≤ ρ 5 7 ∧ ρ 5 7 ≤ 9999 := hT.2 5 7
  have hh : 0 ≤ ρ 5 8 ∧ ρ 5 8 ≤ 10 := hT.2 5 8
  have h1 : 0 ≤ ρ 39 (f + 1) ∧ ρ 39 (f + 1) ≤ 9999 := hT.2 39 _
  have r1 := lsO_rg k i
  have r2 := grO_rg k i hh
  have h49 : G 49 0 [some (vI k), some (vI i)] [] (toM ρ τ) (fun v μ2 => G 45 54 (some (.ref 5) :: some (vI k) :: some (vI i) :: some (vI f) :: []) (v.toList ++ []) μ2 Q) = Q (some (vI (tv (lsO k i ≤ ρ 5 7 ∧ ρ 5 7 ≤ grO k i (ρ 5 8))))) (toM ρ τ) := by
    rw [c_lsO hT.1 hk hi, b45_54 ρ τ k i f [] _ hT.1 hk hi ⟨by omega, by omega⟩ ⟨by omega, by omega⟩]
    split
    · rw [tv_f (by omega)]
    · rw [c_great hT.1 hk hi, b45_75 ρ τ k i f _ _ _ _ hT.1 hk hi ⟨by omega, by omega⟩ ⟨by omega, by omega⟩ ⟨by omega, by omega⟩ ⟨by omega, by omega⟩]
      split
      · rw [tv_f (by omega)]
      · rw [tv_t (by omega)]
  have h50 : ¬ ρ 5 7 < ρ 39 (f + 1) + 1 → G 50 0 [some (.ref 5), some (vI k), some (vI i)] [] (toM ρ τ) (fun v μ2 => G 45 75 (some (.ref 5) :: some (vI k) :: some (vI i) :: some (vI f) :: some (vI ((ρ 39 (f + 1)) + 1)) :: []) (v.toList ++ [vI (ρ 5 7)]) μ2 Q) = Q (some (vI (tv (ρ 39 (f + 1) + 1 ≤ ρ 5 7 ∧ ρ 5 7 ≤ grO k i (ρ 5 8))))) (toM ρ τ) := by
    intro c
    rw [c_great hT.1 hk hi, b45_75 ρ τ k i f _ _ _ _ hT.1 hk hi ⟨by omega, by omega⟩ ⟨by omega, by omega⟩ ⟨by omega, by omega⟩ ⟨by omega, by omega⟩]
    split
    · rw [tv_f (by omega)]
    · rw [tv_t (by omega)]
  rw [b45_0 ρ τ k i f hT.1 hk hi ⟨by omega, by omega⟩]
  by_cases k4 : k = 4
  · have k6 : ¬ k = 6 := by omega
    have hl : lwO k i (ρ 39 (f + 1)) = lsO k i := by unfold lwO; rw [if_neg (by omega)]
    rw [if_pos k4, if_neg k6]
    by_cases i1 : i = 1
    · rw [if_pos i1, if_pos (by omega)]
      by_cases c : ρ 5 7 = ρ 39 f
      · rw [if_pos c, tv_f (fun z => z.1 ⟨k4, i1, c⟩)]
      · rw [if_neg c, h49, tv_cg]
        rw [okN, hl]
        exact ⟨fun z => ⟨fun y => c y.2.2, z⟩, fun z => z.2⟩
    · rw [if_neg i1, h49, tv_cg]
      rw [okN, hl]
      exact ⟨fun z => ⟨fun y => i1 y.2.1, z⟩, fun z => z.2⟩
  · rw [if_neg k4]
    by_cases k6 : k = 6
    · rw [if_pos k6]
      by_cases i2 : i = 2
      · have hl : lwO k i (ρ 39 (f + 1)) = ρ 39 (f + 1) + 1 := by unfold lwO; rw [if_pos ⟨k6, i2⟩]
        rw [if_pos i2, if_pos (by omega)]
        by_cases c : ρ 5 7 < ρ 39 (f + 1) + 1
        · rw [if_pos c, tv_f (fun z => by have := z.2.1; omega)]
        · rw [if_neg c, h50 c, tv_cg]
          rw [okN, hl]
          exact ⟨fun z => ⟨fun y => k4 y.1, z⟩, fun z => z.2⟩
      · have hl : lwO k i (ρ 39 (f + 1)) = lsO k i := by unfold lwO; rw [if_neg (by omega)]
        rw [if_neg i2, h49, tv_cg]
        rw [okN, hl]
        exact ⟨fun z => ⟨fun y => k4 y.1, z⟩, fun z => z.2⟩
    · have hl : lwO k i (ρ 39 (f + 1)) = lsO k i := by unfold lwO; rw [if_neg (by omega)]
      rw [if_neg k6, h49, tv_cg]
      rw [okN, hl]
      exact ⟨fun z => ⟨fun y => k4 y.1, z⟩, fun z => z.2⟩
theorem c_fore (hT : TI ρ) {k v : Int} (hk : SM k) (hv : SM v) (h1 : k = 1 → 0 ≤ v ∧ v ≤ 10) (h2 : ¬ fuL k (ρ 5 9) (ρ 5 10) (ρ 5 11)) (H : ∀ ρ', TI ρ' → (∀ a j, ¬ (a = 5 ∧ 8 ≤ j ∧ j ≤ 11) → ρ' a j = ρ a j) → ρ' 5 8 = nh k v (ρ 5 8) → ρ' 5 9 = nw k (ρ 5 9) → ρ' 5 10 = nd k (ρ 5 10) → ρ' 5 11 = ns k (ρ 5 11) → Q none (toM ρ' τ)) : G 47 0 [some (.ref 5), some (vI k), some (vI v)] [] (toM ρ τ) Q := by
  have r9 : 0 ≤ ρ 5 9 ∧ ρ 5 9 ≤ 8 := hT.2 5 9
  have r10 : 0 ≤ ρ 5 10 ∧ ρ 5 10 ≤ 10 := hT.2 5 10
  have r11 : 0 ≤ ρ 5 11 ∧ ρ 5 11 ≤ 6 := hT.2 5 11
  rw [b47_0 ρ τ k v hT.1 hk hv]
  have kp : ∀ {ρ' : rm} {i x : Int}, (∀ a j, ¬ (a = 5 ∧ 8 ≤ j ∧ j ≤ 11) → ρ' a j = ρ a j) → 8 ≤ i ∧ i ≤ 11 → ∀ a j, ¬ (a = 5 ∧ 8 ≤ j ∧ j ≤ 11) → rup ρ' 5 i x a j = ρ a j := fun {ρ' i x} hk hi a j ha => by
    rw [← hk a j ha]
    unfold rup
    rw [if_neg (fun z => ha ⟨z.1, by omega, by omega⟩)]
  by_cases c1 : k = 1
  · have := h1 c1
    rw [if_pos c1]
    refine H _ (TI_up (TI_up (TI_up (TI_up hT 5 8 (x := v) (show 0 ≤ v ∧ v ≤ 10 by omega) (by omega)) 5 9 (x := 0) (show (0 : Int) ≤ 0 ∧ (0 : Int) ≤ 8 by omega) (by omega)) 5 10 (x := 0) (show (0 : Int) ≤ 0 ∧ (0 : Int) ≤ 10 by omega) (by omega)) 5 11 (x := 0) (show (0 : Int) ≤ 0 ∧ (0 : Int) ≤ 6 by omega) (by omega)) (kp (kp (kp (kp (fun _ _ _ => rfl) (by omega)) (by omega)) (by omega)) (by omega)) ?_ ?_ ?_ ?_
    · rw [rup5 (by decide), rup5 (by decide), rup5 (by decide), rup_same]; unfold nh; rw [if_pos c1]
    · rw [rup5 (by decide), rup5 (by decide), rup_same]; unfold nw; rw [if_pos c1]
    · rw [rup5 (by decide), rup_same]; unfold nd; rw [if_pos (Or.inl c1)]
    · rw [rup_same]; unfold ns; rw [if_pos (Or.inl c1)]
  · rw [if_neg c1]
    have e8 : nh k v (ρ 5 8) = ρ 5 8 := by unfold nh; rw [if_neg c1]
    by_cases c2 : k = 2
    · rw [if_pos c2]
      exact H ρ hT (fun _ _ _ => rfl) e8.symm (by unfold nw; rw [if_neg c1, if_neg (by omega)]) (by unfold nd; rw [if_neg (by omega), if_neg (by omega)]) (by unfold ns; rw [if_neg (by omega), if_neg (by omega)])
    · rw [if_neg c2]
      by_cases c3 : k = 3
      · rw [if_pos c3]
        exact H ρ hT (fun _ _ _ => rfl) e8.symm (by unfold nw; rw [if_neg c1, if_neg (by omega)]) (by unfold nd; rw [if_neg (by omega), if_neg (by omega)]) (by unfold ns; rw [if_neg (by omega), if_neg (by omega)])
      · rw [if_neg c3]
        by_cases c4 : k = 4
        · rw [if_pos c4]
          exact H _ (TI_up hT 5 9 (x := ρ 5 9 + 1) (show 0 ≤ ρ 5 9 + 1 ∧ ρ 5 9 + 1 ≤ 8 by omega) (by omega)) (kp (fun _ _ _ => rfl) (by omega)) (by rw [rup5 (by decide), e8]) (by rw [rup_same]; unfold nw; rw [if_neg c1, if_pos c4]) (by rw [rup5 (by decide)]; unfold nd; rw [if_neg (by omega), if_neg (by omega)]) (by rw [rup5 (by decide)]; unfold ns; rw [if_neg (by omega), if_neg (by omega)])
        · rw [if_neg c4]
          by_cases c5 : k = 5
          · rw [if_pos c5]
            exact H _ (TI_up hT 5 10 (x := ρ 5 10 + 1) (show 0 ≤ ρ 5 10 + 1 ∧ ρ 5 10 + 1 ≤ 10 by omega) (by omega)) (kp (fun _ _ _ => rfl) (by omega)) (by rw [rup5 (by decide), e8]) (by rw [rup5 (by decide)]; unfold nw; rw [if_neg c1, if_neg c4]) (by rw [rup_same]; unfold nd; rw [if_neg (by omega), if_pos c5]) (by rw [rup5 (by decide)]; unfold ns; rw [if_neg (by omega), if_neg (by omega)])
          · rw [if_neg c5]
            by_cases c6 : k = 6
            · rw [if_pos c6]
              exact H _ (TI_up hT 5 11 (x := ρ 5 11 + 1) (show 0 ≤ ρ 5 11 + 1 ∧ ρ 5 11 + 1 ≤ 6 by omega) (by omega)) (kp (fun _ _ _ => rfl) (by omega)) (by rw [rup5 (by decide), e8]) (by rw [rup5 (by decide)]; unfold nw; rw [if_neg c1, if_neg c4]) (by rw [rup5 (by decide)]; unfold nd; rw [if_neg (by omega), if_neg c5]) (by rw [rup_same]; unfold ns; rw [if_neg (by omega), if_pos c6])
            · rw [if_neg c6]
              by_cases c7 : k = 7
              · rw [if_pos c7]
                exact H _ (TI_up (TI_up hT 5 10 (x := 0) (show (0 : Int) ≤ 0 ∧ (0 : Int) ≤ 10 by omega) (by omega)) 5 11 (x := 0) (show (0 : Int) ≤ 0 ∧ (0 : Int) ≤ 6 by omega) (by omega)) (kp (kp (fun _ _ _ => rfl) (by omega)) (by omega)) (by rw [rup5 (by decide), rup5 (by decide), e8]) (by rw [rup5 (by decide), rup5 (by decide)]; unfold nw; rw [if_neg c1, if_neg c4]) (by rw [rup5 (by decide), rup_same]; unfold nd; rw [if_pos (Or.inr c7)]) (by rw [rup_same]; unfold ns; rw [if_pos (Or.inr c7)])
              · rw [if_neg c7]
                exact H ρ hT (fun _ _ _ => rfl) e8.symm (by unfold nw; rw [if_neg c1, if_neg c4]) (by unfold nd; rw [if_neg (by omega), if_neg c5]) (by unfold ns; rw [if_neg (by omega), if_neg c6])
/-- what reading a line leaves -/
def KL (l : Int) (ρ ρ' : rm) : Prop := (∀ a j, ¬ a = 5 → ¬ (a = 38 ∧ j = l) → ¬ (a = 39 ∧ 5 * l ≤ j ∧ j < 5 * l + 5) → ρ' a j = ρ a j) ∧ ρ' 5 0 = ρ 5 0
theorem KL.of {l : Int} {ρ ρ' : rm} (h : K5 ρ ρ') : KL l ρ ρ' := ⟨fun a j h1 _ _ => h a j (fun z => h1 z.1), h 5 0 (by omega)⟩
theorem KL.trans {l : Int} {a b c : rm} (h1 : KL l a b) (h2 : KL l b c) : KL l a c := ⟨fun k j x y z => (h2.1 k j x y z).trans (h1.1 k j x y z), h2.2.trans h1.2⟩
theorem KL.up39 {l : Int} {ρ ρ' : rm} (h : KL l ρ ρ') {i : Int} (x : Int) (hi : 5 * l ≤ i ∧ i < 5 * l + 5) : KL l ρ (rup ρ' 39 i x) := ⟨fun a j h1 h2 h3 => by
  rw [← h.1 a j h1 h2 h3]
  unfold rup
  rw [if_neg (fun z => h3 ⟨z.1, by omega, by omega⟩)], by rw [← h.2]; exact rup_ne _ _ _ _ (by decide)⟩
theorem KL.up38 {l : Int} {ρ ρ' : rm} (h : KL l ρ ρ') (x : Int) : KL l ρ (rup ρ' 38 l x) := ⟨fun a j h1 h2 h3 => by
  rw [← h.1 a j h1 h2 h3]
  unfold rup
  rw [if_neg (fun z => h2 ⟨z.1, z.2⟩)], by rw [← h.2]; exact rup_ne _ _ _ _ (by decide)⟩
end LC
