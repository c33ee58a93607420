/-! order -/
theorem fo_snoc {S : Type} (f : Int → S → S) : ∀ (d : Nat) (i : Int) (s : S), fo f i (d + 1) s = f (i + d) (fo f i d s)
  | 0, i, s => by simp [fo]
  | d + 1, i, s => by
    show fo f (i + 1) (d + 1) (f i s) = f (i + ((d + 1 : Nat) : Int)) (fo f (i + 1) d (f i s))
    rw [fo_snoc f d (i + 1) (f i s), show i + 1 + (d : Int) = i + ((d + 1 : Nat) : Int) by omega]
theorem sF_succ (g : Int → Int) (n : Nat) : sF g ((n + 1 : Nat) : Int) = sF g (n : Int) + g (n : Int) := by
  unfold sF
  rw [Int.toNat_natCast, Int.toNat_natCast, fo_snoc]
  simp
theorem sF_mono {g g' : Int → Int} : ∀ (n : Nat), (∀ q, 0 ≤ q → q < (n : Int) → g q ≤ g' q) → sF g n ≤ sF g' n ∧ ∀ q, 0 ≤ q → q < (n : Int) → g q < g' q → sF g n < sF g' n
  | 0, h => ⟨Int.le_refl _, fun q h1 h2 => by omega⟩
  | n + 1, h => by
    obtain ⟨h1, h2⟩ := sF_mono (g := g) (g' := g') n (fun q h3 h4 => h q h3 (by omega))
    have h5 := h (n : Int) (by omega) (by omega)
    rw [sF_succ, sF_succ]
    refine ⟨by omega, fun q h6 h7 h8 => ?_⟩
    by_cases h9 : q = (n : Int)
    · rw [h9] at h8; omega
    · have := h2 q h6 (by omega) h8
      omega
theorem sF_one : ∀ (n : Nat), sF (fun _ => 1) n = n
  | 0 => rfl
  | n + 1 => by rw [sF_succ, sF_one n]; omega
theorem sF_zero : ∀ (n : Nat), sF (fun _ => 0) n = 0
  | 0 => rfl
  | n + 1 => by rw [sF_succ, sF_zero n]; omega
def ahd (B : Int → Int) (q d : Int) : Prop := B q < B d ∨ B q = B d ∧ q < d
def ahg (B : Int → Int) (d q : Int) : Int := if B q < B d ∨ B q = B d ∧ q < d then 1 else 0
def rk (B : Int → Int) (n d : Int) : Int := sF (ahg B d) n
theorem rk_lt {B : Int → Int} {n q d : Int} (hq : 0 ≤ q ∧ q < n) (h : ahd B q d) : rk B n q < rk B n d := by
  obtain ⟨k, rfl⟩ : ∃ k : Nat, n = k := ⟨n.toNat, by omega⟩
  unfold ahd at h
  refine (sF_mono k (fun x h1 h2 => ?_)).2 q hq.1 hq.2 ?_
  · unfold ahg
    split <;> split <;> omega
  · unfold ahg
    rw [if_neg (by omega), if_pos h]
    omega
theorem rk_bd {B : Int → Int} {n d : Int} (hd : 0 ≤ d ∧ d < n) : 0 ≤ rk B n d ∧ rk B n d < n := by
  obtain ⟨k, rfl⟩ : ∃ k : Nat, n = k := ⟨n.toNat, by omega⟩
  have h1 := (sF_mono (g := ahg B d) (g' := fun _ => 1) k (fun x _ _ => by unfold ahg; split <;> omega)).2 d hd.1 hd.2 (by unfold ahg; split <;> omega)
  have h2 := (sF_mono (g := fun _ => 0) (g' := ahg B d) k (fun x _ _ => by unfold ahg; split <;> omega)).1
  rw [sF_one] at h1
  rw [sF_zero] at h2
  exact ⟨h2, h1⟩
theorem rk_inj {B : Int → Int} {n q d : Int} (hq : 0 ≤ q ∧ q < n) (hd : 0 ≤ d ∧ d < n) (h : rk B n q = rk B n d) : q = d := by
  by_cases h1 : ahd B q d
  · have := rk_lt hq h1; omega
  · by_cases h2 : ahd B d q
    · have := rk_lt hd h2; omega
    · unfold ahd at h1 h2
      omega
theorem rk_by {B by_ : Int → Int} {n : Int} (h1 : ∀ i, 0 ≤ i → i < n → 0 ≤ by_ i ∧ by_ i < n) (h2 : ∀ i j, 0 ≤ i → i < j → j < n → ahd B (by_ i) (by_ j)) {i : Int} (hi : 0 ≤ i ∧ i < n) : rk B n (by_ i) = i := by
  have lo : ∀ k : Nat, (k : Int) < n → (k : Int) ≤ rk B n (by_ k) := by
    intro k
    induction k with
    | zero => intro h; have := rk_bd (B := B) (h1 0 (by omega) (by omega)); exact this.1
    | succ k ih =>
      intro h
      have e1 := ih (by omega)
      have e2 := rk_lt (h1 k (by omega) (by omega)) (h2 k ((k + 1 : Nat) : Int) (by omega) (by omega) h)
      omega
  have hi2 : ∀ k : Nat, (k : Int) < n → rk B n (by_ (n - 1 - k)) ≤ n - 1 - k := by
    intro k
    induction k with
    | zero => intro h; have := rk_bd (B := B) (h1 (n - 1) (by omega) (by omega)); simp; omega
    | succ k ih =>
      intro h
      have e1 := ih (by omega)
      have e2 := rk_lt (h1 (n - 1 - ((k + 1 : Nat) : Int)) (by omega) (by omega)) (h2 (n - 1 - ((k + 1 : Nat) : Int)) (n - 1 - (k : Int)) (by omega) (by omega) (by omega))
      omega
  have e1 := lo i.toNat (by omega)
  have e2 := hi2 (n - 1 - i).toNat (by omega)
  rw [show ((i.toNat : Nat) : Int) = i by omega] at e1
  rw [show n - 1 - (((n - 1 - i).toNat : Nat) : Int) = i by omega] at e2
  omega
def bgn (ρ : rm) (d : Int) : Int := ρ 55 (3 * d + 1) + oS ρ (ρ 55 (3 * d))
section OD
variable {ρ : rm} {τ : Int64} {Q : Option Value → mm → Prop}
theorem RR.bg (h : RR ρ) {d : Int} (h1 : 0 ≤ d ∧ d < ρ 51 5) : ρ 10 (ρ 27 d) + ρ 28 d = bgn ρ d := by
  have e1 := h.de h1
  have e2 := h.off (a := ρ 55 (3 * d)) (by omega) (by omega)
  unfold bgn
  rw [e1.1, e1.2.1, e2]
  omega
theorem RR.by (h : RR ρ) : (∀ i, 0 ≤ i → i < ρ 51 5 → 0 ≤ ρ 30 i ∧ ρ 30 i < ρ 51 5) ∧ ∀ i j, 0 ≤ i → i < j → j < ρ 51 5 → ahd (bgn ρ) (ρ 30 i) (ρ 30 j) := by
  obtain ⟨d1, d2, d3⟩ := h.dn
  obtain ⟨o1, o2⟩ := h.O
  rw [d1] at o1 o2
  refine ⟨o1, fun i j h1 h2 h3 => ?_⟩
  have h4 := o2 i j h1 h2 h3
  have h5 := o1 i h1 (by omega)
  have h6 := o1 j (by omega) h3
  rw [h.bg h5, h.bg h6] at h4
  exact h4
theorem m_ord (h : RR ρ) {i d : Int} (hi : SB i) (hd : 0 ≤ d ∧ d < ρ 51 5) {X : Prop} (t : List (Option Value))
    (H1 : rk (bgn ρ) (ρ 51 5) d = i → Q (some (vI d)) (toM ρ τ) = X) (H2 : ¬ rk (bgn ρ) (ρ 51 5) d = i → ∀ t', G 154 9 (some (.ref 51) :: some (vI i) :: some (vI (d + 1)) :: t') [] (toM ρ τ) Q = X) :
    G 154 9 (some (.ref 51) :: some (vI i) :: some (vI d) :: t) [] (toM ρ τ) Q = X := by
  have hT := h.1
  obtain ⟨d1, d2, d3⟩ := h.dn
  rw [s154_9 ρ τ i d t hT hi ⟨by omega, by omega⟩, if_neg (by omega)]
  refine lp (S := Int) (P := fun q s t => G 154 22 (some (.ref 51) :: some (vI i) :: some (vI d) :: some (vI s) :: some (vI q) :: t) [] (toM ρ τ) Q) (inv := fun q s => 0 ≤ q ∧ 0 ≤ s ∧ s ≤ q) (n := ρ 51 5) (f := fun q s => s + ahg (bgn ρ) d q) ?_ (fun q s h1 h2 => by unfold ahg; split <;> omega) (ρ 51 5).toNat 0 0 _ (by omega) (by omega) ?_
  · rintro q s t h1 ⟨h2, h3, h4⟩ H
    show G 154 22 (some (.ref 51) :: some (vI i) :: some (vI d) :: some (vI s) :: some (vI q) :: t) [] (toM ρ τ) Q = _
    rw [s154_22 ρ τ i d s q t hT hi ⟨by omega, by omega⟩ ⟨by omega, by omega⟩ ⟨by omega, by omega⟩, if_neg (by omega)]
    have e1 : ρ 55 (3 * q + 1) + oS ρ (ρ 55 (3 * q)) = bgn ρ q := rfl
    have e2 : ρ 55 (3 * d + 1) + oS ρ (ρ 55 (3 * d)) = bgn ρ d := rfl
    rw [e1, e2]
    unfold ahg at H
    (repeat' split) <;> exact H _ _ (by omega)
  · intro h2 t'
    show G 154 22 (some (.ref 51) :: some (vI i) :: some (vI d) :: some (vI (rk (bgn ρ) (ρ 51 5) d)) :: some (vI (ρ 51 5)) :: t') [] (toM ρ τ) Q = _
    have := rk_bd (B := bgn ρ) hd
    rw [s154_22 ρ τ i d _ _ t' hT hi ⟨by omega, by omega⟩ ⟨by omega, by omega⟩ ⟨by omega, by omega⟩, if_pos (by omega)]
    split
    · rename_i z; exact H1 z
    · rename_i z; exact H2 z _
theorem m_order (h : RR ρ) {i : Int} (hi : SB i) (h0 : 0 ≤ i) : G 154 0 [some (.ref 51), some (vI i)] [] (toM ρ τ) Q = Q (some (vI (if i < ρ 51 5 then ρ 30 i else -1))) (toM ρ τ) := by
  have hT := h.1
  obtain ⟨d1, d2, d3⟩ := h.dn
  obtain ⟨b1, b2⟩ := h.by
  generalize hX : Q (some (vI (if i < ρ 51 5 then ρ 30 i else -1))) (toM ρ τ) = X
  rw [s154 ρ τ i hT hi, if_pos h0]
  by_cases h1 : i < ρ 51 5
  · have b3 := b1 i h0 h1
    have e := rk_by b1 b2 ⟨h0, h1⟩
    refine lp (S := Unit) (P := fun d _ t => G 154 9 (some (.ref 51) :: some (vI i) :: some (vI d) :: t) [] (toM ρ τ) Q) (inv := fun d _ => 0 ≤ d) (n := ρ 30 i) (f := fun _ s => s) ?_ (fun q s z1 z2 => by omega) (ρ 30 i).toNat 0 () [] (by omega) (by omega) ?_
    · rintro d s t z1 z2 H
      refine m_ord h hi (d := d) ⟨z2, by omega⟩ t (fun z3 => ?_) (fun _ t' => H () t' rfl)
      have := rk_inj (B := bgn ρ) (n := ρ 51 5) (q := d) (d := ρ 30 i) ⟨z2, by omega⟩ b3 (by omega)
      omega
    · intro _ t'
      refine m_ord h hi (d := ρ 30 i) b3 t' (fun _ => ?_) (fun z => absurd e z)
      rw [← hX, if_pos h1]
  · refine lp (S := Unit) (P := fun d _ t => G 154 9 (some (.ref 51) :: some (vI i) :: some (vI d) :: t) [] (toM ρ τ) Q) (inv := fun d _ => 0 ≤ d) (n := ρ 51 5) (f := fun _ s => s) ?_ (fun q s z1 z2 => by omega) (ρ 51 5).toNat 0 () [] (by omega) (by omega) ?_
    · rintro d s t z1 z2 H
      refine m_ord h hi (d := d) ⟨z2, by omega⟩ t (fun z3 => ?_) (fun _ t' => H () t' rfl)
      have := rk_bd (B := bgn ρ) (n := ρ 51 5) (d := d) ⟨z2, by omega⟩
      omega
    · intro _ t'
      show G 154 9 (some (.ref 51) :: some (vI i) :: some (vI (ρ 51 5)) :: t') [] (toM ρ τ) Q = _
      rw [s154_9 ρ τ i _ t' hT hi ⟨by omega, by omega⟩, if_pos (by omega), ← hX, if_neg h1]
end OD
theorem ag_order (a : Int) (ha : SB a) : Agree 96 154 [some (vI a)] := by
  intro ρ τ h
  have hT := h.1
  obtain ⟨d1, d2, d3⟩ := h.dn
  rw [s96 ρ τ a hT ha]
  have e0 : ¬ 0 ≤ a → ∀ Q, G 154 0 [some (.ref 51), some (vI a)] [] (toM ρ τ) Q = Q (some (vI (-3))) (toM ρ τ) := fun h1 Q => by rw [s154 ρ τ a hT ha, if_neg h1]
  have q1 := hT.1 30 a (by decide)
  (repeat' split) <;> (refine ⟨_, ⟨by omega, by omega⟩, rfl, ?_⟩; first | (rw [e0 (by omega)]; exact ag_end rfl h) | (rw [m_order h ha (by omega)]; refine ag_end ?_ h; (split <;> first | rfl | (exfalso; omega))))
