/-! most: the reference; both agree -/
section MO2
variable {ρ : rm} {τ : Int64} {Q : Option Value → mm → Prop}
def vv (R : Int → Int) (d : Int) : Int := if R d = 0 then -1 else R d
theorem mo_reach {last : Int} {R : Int → Int} (hR : ∀ d, 0 ≤ d → d < ρ 51 5 → IsR (ρ 51 5) last (cnM ρ) R d ∧ R d ≤ 10) (hl : last ≠ -1) : ∀ (n : Nat) (d : Int), 0 ≤ d → d < ρ 51 5 → 0 < R d → R d ≤ n → pl ρ d ≤ pl ρ last
  | 0, d, d1, d2, d3, d4 => by omega
  | n + 1, d, d1, d2, d3, d4 => by
    rcases (hR d d1 d2).1.2.2.2 d3 with ⟨-, e⟩ | ⟨j, j1, j2, j3, j4, j5⟩
    · exact Int.le_of_eq (by rw [e.resolve_left hl])
    · have h1 := mo_reach hR hl n j j1 j2 j4 (by omega)
      have h2 := pl_lt ⟨d1, d2⟩ j3
      omega
theorem mo_one {last : Int} {R : Int → Int} (hR : ∀ d, 0 ≤ d → d < ρ 51 5 → IsR (ρ 51 5) last (cnM ρ) R d ∧ R d ≤ 10) (h0 : 0 ≤ last) (h1 : last < ρ 51 5) : R last = 1 := by
  have hb := (hR last h0 h1).1.2.2.1 (Or.inr rfl)
  rcases (hR last h0 h1).1.2.2.2 (by omega) with ⟨e, -⟩ | ⟨j, j1, j2, j3, j4, j5⟩
  · exact e
  · have h2 := mo_reach hR (by omega) (R j).toNat j j1 j2 j4 (by omega)
    have h3 := pl_lt ⟨h0, h1⟩ j3
    omega
def FA (ρ : rm) (last : Int) (R : Int → Int) (n : Int) (ρ' : rm) : Prop := TI ρ' ∧ Same ρ ρ' ∧ (∀ d, 0 ≤ d → d < ρ 51 5 → (-1 ≤ ρ' 65 d ∧ ρ' 65 d ≤ vv R d) ∧ (last = -1 ∨ last = d → 1 ≤ ρ' 65 d)) ∧ ∀ d, 0 ≤ d → d < ρ 51 5 → ρ 51 5 - n ≤ pl ρ d → ρ' 65 d = vv R d
def FB (ρ : rm) (R : Int → Int) (n i : Int) (ρ' : rm) : Prop := ∀ d, 0 ≤ d → d < ρ 51 5 → ρ 51 5 - n - 1 = pl ρ d → d < i → ρ' 65 d = vv R d
def FC (ρ : rm) (last : Int) (R : Int → Int) (n i j : Int) (ρ' : rm) : Prop := ρ 51 5 - n - 1 = pl ρ i → ¬ i = last → ∀ q, 0 ≤ q → q < j → cnM ρ i q → 0 < R q → R q + 1 ≤ ρ' 65 i
theorem fc_ex {last n i j : Int} {R : Int → Int} {ρ' : rm} (hi : 0 ≤ i ∧ i < ρ 51 5) (hj : 0 ≤ j ∧ j < ρ 51 5) (hA : FA ρ last R n ρ') (hp : ρ 51 5 - n - 1 = pl ρ i) (hc : cnM ρ i j) (hr : 0 < R j) : ρ' 65 j = R j := by
  have h1 := pl_lt hi hc
  have h2 := hA.2.2.2 j hj.1 hj.2 (by omega)
  rw [h2]
  unfold vv
  rw [if_neg (by omega)]
theorem fc_step {last n i j : Int} {R : Int → Int} {ρ' : rm} (hi : 0 ≤ i ∧ i < ρ 51 5) (hj : 0 ≤ j ∧ j < ρ 51 5) (hA : FA ρ last R n ρ') (hC : FC ρ last R n i j ρ') (hno : i = last ∨ ρ' 65 j ≤ 0 ∨ ¬ cnM ρ i j ∨ ρ' 65 j + 1 ≤ ρ' 65 i) : FC ρ last R n i (j + 1) ρ' := by
  intro h1 h2 q q1 q2 q3 q4
  by_cases e : q = j
  · rw [e] at q3 q4 ⊢
    have h3 := fc_ex hi hj hA h1 q3 q4
    rcases hno with z | z | z | z
    · exact absurd z h2
    · omega
    · exact absurd q3 z
    · omega
  · exact hC h1 h2 q q1 (by omega) q3 q4
theorem fa_up {last n i j : Int} {R : Int → Int} {ρ' : rm} (hn : ρ 51 5 ≤ 10) (hR : ∀ d, 0 ≤ d → d < ρ 51 5 → IsR (ρ 51 5) last (cnM ρ) R d ∧ R d ≤ 10) (hi : 0 ≤ i ∧ i < ρ 51 5) (hj : 0 ≤ j ∧ j < ρ 51 5) (hA : FA ρ last R n ρ') (hB : FB ρ R n i ρ') (hC : FC ρ last R n i j ρ') (h1 : 0 < ρ' 65 j) (h2 : cnM ρ i j) (h3 : ¬ ρ' 65 j + 1 ≤ ρ' 65 i) : FA ρ last R n (rup ρ' 65 i (ρ' 65 j + 1)) ∧ FB ρ R n i (rup ρ' 65 i (ρ' 65 j + 1)) ∧ FC ρ last R n i (j + 1) (rup ρ' 65 i (ρ' 65 j + 1)) := by
  have a1 := (hA.2.2.1 j hj.1 hj.2).1.2
  have a2 := hA.2.2.1 i hi.1 hi.2
  have a3 : 0 < R j ∧ ρ' 65 j ≤ R j := by
    have := (hR j hj.1 hj.2).1.1
    unfold vv at a1
    split at a1
    · omega
    · exact ⟨by omega, a1⟩
  have a4 := (hR i hi.1 hi.2).1.2.1 j hj.1 hj.2 h2 a3.1
  have a5 := (hR i hi.1 hi.2).2
  have a6 : vv R i = R i := by unfold vv; rw [if_neg (by omega)]
  have me : rup ρ' 65 i (ρ' 65 j + 1) 65 i = ρ' 65 j + 1 := rup_same _ _ _ _
  have oth : ∀ d, d ≠ i → rup ρ' 65 i (ρ' 65 j + 1) 65 d = ρ' 65 d := fun d hd => rup_sl hd
  refine ⟨⟨TI_up hA.1 65 i (x := ρ' 65 j + 1) (show -1 ≤ ρ' 65 j + 1 ∧ ρ' 65 j + 1 ≤ 10 by omega) (by omega), hA.2.1.up _ (by unfold scr; omega), fun d d1 d2 => ?_, fun d d1 d2 d3 => ?_⟩, fun d d1 d2 d3 d4 => ?_, fun c1 c2 q q1 q2 q3 q4 => ?_⟩
  · by_cases e : d = i
    · rw [e, me, a6]
      exact ⟨by omega, fun _ => by omega⟩
    · rw [oth d e]
      exact hA.2.2.1 d d1 d2
  · by_cases e : d = i
    · rw [e] at d3
      have := hA.2.2.2 i hi.1 hi.2 d3
      omega
    · rw [oth d e]
      exact hA.2.2.2 d d1 d2 d3
  · rw [oth d (by omega)]
    exact hB d d1 d2 d3 d4
  · rw [me]
    by_cases e : q = j
    · rw [e] at q4 ⊢
      have := fc_ex hi hj hA c1 h2 q4
      omega
    · have := hC c1 c2 q q1 (by omega) q3 q4
      omega
theorem m_layFrom (h : RR ρ) {last : Int} (hl : -1 ≤ last ∧ last < ρ 51 5) {R : Int → Int} (hR : ∀ d, 0 ≤ d → d < ρ 51 5 → IsR (ρ 51 5) last (cnM ρ) R d ∧ R d ≤ 10) (hQ : ∀ ρ', TI ρ' → Same ρ ρ' → (∀ d, 0 ≤ d → d < ρ 51 5 → ρ' 65 d = vv R d) → Q none (toM ρ' τ)) : G 158 0 [some (.ref 51), some (vI last)] [] (toM ρ τ) Q := by
  have hT := h.1
  obtain ⟨-, n2, n3⟩ := h.dn
  have nn : ∀ {ρ' : rm}, Same ρ ρ' → ρ' 51 5 = ρ 51 5 := fun hS => hS 51 5 (by unfold scr; omega)
  rw [s158 ρ τ last hT (by omega)]
  have rounds := upw (P := fun n => 0 ≤ n → ∀ ρ' t, FA ρ last R n ρ' → G 158 39 (some (.ref 51) :: some (vI last) :: some (vI n) :: t) [] (toM ρ' τ) Q) (n := ρ 51 5) ?_ ?_ (ρ 51 5).toNat
  · rw [show ρ 51 5 - (((ρ 51 5).toNat : Nat) : Int) = 0 by omega] at rounds
    have init := upw (P := fun d => 0 ≤ d → ∀ ρ' t, TI ρ' → Same ρ ρ' → (∀ x, 0 ≤ x → x < d → ρ' 65 x = if last = -1 ∨ last = x then 1 else -1) → G 158 2 (some (.ref 51) :: some (vI last) :: some (vI d) :: t) [] (toM ρ' τ) Q) (n := ρ 51 5) ?_ ?_ (ρ 51 5).toNat
    · rw [show ρ 51 5 - (((ρ 51 5).toNat : Nat) : Int) = 0 by omega] at init
      exact init (by omega) ρ _ hT (Same.refl ρ) (fun x x1 x2 => by omega)
    · intro d d1 IH d2 ρ' t hT' hS' hx
      rw [s158_2 ρ' τ last d t hT' (by omega) ⟨by omega, by omega⟩, nn hS', if_neg (by omega)]
      have go : ∀ v, v = (if last = -1 ∨ last = d then 1 else -1) → G 158 2 (some (.ref 51) :: some (vI last) :: some (vI (d + 1)) :: t) [] (toM (rup ρ' 65 d v) τ) Q := fun v hv => by
        have hv2 : -1 ≤ v ∧ v ≤ 1 := by rw [hv]; split <;> omega
        refine IH (by omega) _ _ (TI_up hT' 65 d (x := v) (show -1 ≤ v ∧ v ≤ 10 by omega) (by omega)) (hS'.up _ (by unfold scr; omega)) (fun x x1 x2 => ?_)
        by_cases e : x = d
        · rw [e, rup_same]; exact hv
        · rw [rup_sl e]; exact hx x x1 (by omega)
      (repeat' split) <;> exact go _ (by omega)
    · intro d2 ρ' t hT' hS' hx
      rw [s158_2 ρ' τ last _ t hT' (by omega) ⟨by omega, by omega⟩, nn hS', if_pos (by omega)]
      refine rounds (by omega) ρ' _ ⟨hT', hS', fun d d1 d2 => ?_, fun d d1 d2 d3 => by have := pl_bd (ρ := ρ) ⟨d1, d2⟩; omega⟩
      have q1 := hx d d1 d2
      have q2 := (hR d d1 d2).1.1
      have q3 := (hR d d1 d2).1.2.2.1
      rw [q1]
      unfold vv
      by_cases e : last = -1 ∨ last = d
      · have := q3 e
        rw [if_pos e, if_neg (by omega)]
        exact ⟨by omega, fun _ => by omega⟩
      · rw [if_neg e]
        refine ⟨⟨by omega, by split <;> omega⟩, fun z => absurd z e⟩
  · intro n n1 IH n4 ρ' t hA
    rw [s158_39 ρ' τ last n t hA.1 (by omega) ⟨by omega, by omega⟩, nn hA.2.1, if_neg (by omega)]
    have il := upw (P := fun i => 0 ≤ i → ∀ ρ' t, FA ρ last R n ρ' → FB ρ R n i ρ' → G 158 49 (some (.ref 51) :: some (vI last) :: some (vI n) :: some (vI i) :: t) [] (toM ρ' τ) Q) (n := ρ 51 5) ?_ ?_ (ρ 51 5).toNat
    · rw [show ρ 51 5 - (((ρ 51 5).toNat : Nat) : Int) = 0 by omega] at il
      exact il (by omega) ρ' _ hA (fun d d1 d2 d3 d4 => by omega)
    · intro i i1 IH2 i2 ρ' t hA hB
      rw [s158_49 ρ' τ last n i t hA.1 (by omega) ⟨by omega, by omega⟩ ⟨by omega, by omega⟩, nn hA.2.1, if_neg (by omega)]
      have jl := upw (P := fun j => 0 ≤ j → ∀ ρ' t, FA ρ last R n ρ' → FB ρ R n i ρ' → FC ρ last R n i j ρ' → G 158 60 (some (.ref 51) :: some (vI last) :: some (vI n) :: some (vI i) :: some (vI j) :: t) [] (toM ρ' τ) Q) (n := ρ 51 5) ?_ ?_ (ρ 51 5).toNat
      · rw [show ρ 51 5 - (((ρ 51 5).toNat : Nat) : Int) = 0 by omega] at jl
        exact jl (by omega) ρ' _ hA hB (fun _ _ q q1 q2 => by omega)
      · intro j j1 IH3 j2 ρ' t hA hB hC
        rw [s158_60 ρ' τ last n i j t hA.1 (by omega) ⟨by omega, by omega⟩ ⟨by omega, by omega⟩ ⟨by omega, by omega⟩, nn hA.2.1, if_neg (by omega)]
        have kk := cn_same hA.2.1 i j
        have no : (i = last ∨ ρ' 65 j ≤ 0 ∨ ¬ cnM ρ i j ∨ ρ' 65 j + 1 ≤ ρ' 65 i) → G 158 60 (some (.ref 51) :: some (vI last) :: some (vI n) :: some (vI i) :: some (vI (j + 1)) :: t) [] (toM ρ' τ) Q := fun z => IH3 (by omega) ρ' t hA hB (fc_step ⟨i2, i1⟩ ⟨j2, j1⟩ hA hC z)
        split
        · rename_i c
          exact no (Or.inl c)
        · rename_i c0
          split
          · rename_i c
            exact no (Or.inr (Or.inl c))
          · rename_i c1
            by_cases c2 : cnM ρ' i j
            · rw [if_pos c2]
              split
              · rename_i c3
                exact no (Or.inr (Or.inr (Or.inr c3)))
              · rename_i c3
                obtain ⟨u1, u2, u3⟩ := fa_up n3 hR ⟨i2, i1⟩ ⟨j2, j1⟩ hA hB hC (by omega) (kk.mp c2) c3
                exact IH3 (by omega) _ t u1 u2 u3
            · rw [if_neg c2]
              exact no (Or.inr (Or.inr (Or.inl (fun z => c2 (kk.mpr z)))))
      · intro j2 ρ' t hA hB hC
        rw [s158_60 ρ' τ last n i _ t hA.1 (by omega) ⟨by omega, by omega⟩ ⟨by omega, by omega⟩ ⟨by omega, by omega⟩, nn hA.2.1, if_pos (by omega)]
        refine IH2 (by omega) ρ' _ hA (fun d d1 d2 d3 d4 => ?_)
        by_cases e : d = i
        · rw [e] at d3 ⊢
          have a1 := hA.2.2.1 i i2 i1
          have a2 := (hR i i2 i1).1
          by_cases e2 : i = last
          · have a3 := mo_one hR (by omega) (by omega)
            have a4 := a1.2 (Or.inr e2.symm)
            have a5 : vv R i = 1 := by unfold vv; rw [e2, a3]; rfl
            omega
          · by_cases e3 : R i = 0
            · have a5 : vv R i = -1 := by unfold vv; rw [if_pos e3]
              omega
            · have a5 : vv R i = R i := by unfold vv; rw [if_neg e3]
              have a6 := a2.1
              rcases a2.2.2.2 (by omega) with ⟨b1, b2⟩ | ⟨j, b1, b2, b3, b4, b5⟩
              · have := a1.2 b2
                omega
              · have := hC d3 e2 j b1 b2 b3 b4
                omega
        · exact hB d d1 d2 d3 (by omega)
    · intro i2 ρ' t hA hB
      rw [s158_49 ρ' τ last n _ t hA.1 (by omega) ⟨by omega, by omega⟩ ⟨by omega, by omega⟩, nn hA.2.1, if_pos (by omega)]
      refine IH (by omega) ρ' _ ⟨hA.1, hA.2.1, hA.2.2.1, fun d d1 d2 d3 => ?_⟩
      by_cases e : ρ 51 5 - n ≤ pl ρ d
      · exact hA.2.2.2 d d1 d2 e
      · exact hB d d1 d2 (by omega) d2
  · intro n4 ρ' t hA
    rw [s158_39 ρ' τ last _ t hA.1 (by omega) ⟨by omega, by omega⟩, nn hA.2.1, if_pos (by omega)]
    exact hQ ρ' hA.1 hA.2.1 (fun d d1 d2 => hA.2.2.2 d d1 d2 (by have := pl_bd (ρ := ρ) ⟨d1, d2⟩; omega))
theorem lg_succ (R : Int → Int) {d : Int} (hd : 0 ≤ d) : lg R (d + 1) = max (lg R d) (R d) := by
  unfold lg
  rw [show (d + 1).toNat = d.toNat + 1 by omega, fo_snoc, show (0 : Int) + (d.toNat : Int) = d by omega]
  rfl
theorem m_most (h : RR ρ) {last i : Int} (hl : -1 ≤ last ∧ last < ρ 51 5) (hi : SB i) (hi0 : -1 ≤ i) {R : Int → Int} (hR : ∀ d, 0 ≤ d → d < ρ 51 5 → IsR (ρ 51 5) last (cnM ρ) R d ∧ R d ≤ 10)
    (hQ : ∀ ρ', TI ρ' → Same ρ ρ' → Q (some (vI (if i = -1 then lg R (ρ 51 5) else if i < lg R (ρ 51 5) then fo (nxF (ρ 51 5) (nxt (ρ 51 5) (cnM ρ) R) (lg R (ρ 51 5))) 0 (i + 1).toNat (-1) else -1))) (toM ρ' τ)) : G 158 0 [some (.ref 51), some (vI last)] [] (toM ρ τ) (fun v μ2 => G 159 29 (some (.ref 51) :: some (vI last) :: some (vI i) :: []) (v.toList ++ []) μ2 Q) := by
  obtain ⟨-, n2, n3⟩ := h.dn
  refine m_layFrom h hl hR (fun ρ' hT' hS' hv => ?_)
  have nn : ρ' 51 5 = ρ 51 5 := hS' 51 5 (by unfold scr; omega)
  have hq := hQ ρ' hT' hS'
  have bd : ∀ d, 0 ≤ d → d ≤ ρ 51 5 → 0 ≤ lg R d ∧ lg R d ≤ 10 := fun d d1 d2 => lg_bd d1 (fun x x1 x2 => ⟨(hR x x1 (by omega)).1.1, (hR x x1 (by omega)).2⟩)
  have bD := bd (ρ 51 5) n2 (by omega)
  show G 159 29 (some (.ref 51) :: some (vI last) :: some (vI i) :: []) ((none : Option Value).toList ++ []) (toM ρ' τ) Q
  rw [s159_29 ρ' τ last i [] hT' ⟨by omega, by omega⟩ hi]
  have ml := upw (P := fun d => 0 ≤ d → ∀ t, G 159 34 (some (.ref 51) :: some (vI last) :: some (vI i) :: some (vI (lg R d)) :: some (vI d) :: t) [] (toM ρ' τ) Q) (n := ρ 51 5) ?_ ?_ (ρ 51 5).toNat
  · rw [show ρ 51 5 - (((ρ 51 5).toNat : Nat) : Int) = 0 by omega] at ml
    exact ml (by omega) _
  · intro d d1 IH d2 t
    have b1 := bd d d2 (by omega)
    have b2 := (hR d d2 d1).1.1
    rw [s159_34 ρ' τ last i _ d t hT' (by omega) hi ⟨by omega, by omega⟩ ⟨by omega, by omega⟩, nn, if_neg (by omega), hv d d2 d1]
    have e1 := lg_succ R d2
    have ih := IH (by omega)
    have ve : vv R d = -1 ∧ R d = 0 ∨ vv R d = R d ∧ R d ≠ 0 := by
      unfold vv
      by_cases c : R d = 0
      · rw [if_pos c]; exact Or.inl ⟨rfl, c⟩
      · rw [if_neg c]; exact Or.inr ⟨rfl, c⟩
    split
    · rename_i c
      rw [show lg R d = lg R (d + 1) by omega]
      exact ih t
    · rename_i c
      rw [show vv R d = lg R (d + 1) by omega]
      exact ih t
  · intro _ t
    rw [s159_34 ρ' τ last i _ _ t hT' (by omega) hi ⟨by omega, by omega⟩ ⟨by omega, by omega⟩, nn, if_pos (by omega)]
    by_cases c0 : i = -1
    · rw [if_pos c0, if_pos c0]
      rw [if_pos c0] at hq
      exact hq
    · rw [if_neg c0, if_neg c0]
      rw [if_neg c0] at hq
      by_cases c1 : i < lg R (ρ 51 5)
      · rw [if_pos c1]
        rw [if_pos c1] at hq
        generalize hF : nxF (ρ 51 5) (nxt (ρ 51 5) (cnM ρ) R) (lg R (ρ 51 5)) = F at hq
        have ab : ∀ k : Nat, -1 ≤ fo F 0 k (-1) ∧ fo F 0 k (-1) < ρ 51 5 := by
          intro k
          cases k with
          | zero => show -1 ≤ (-1 : Int) ∧ (-1 : Int) < ρ 51 5; omega
          | succ k =>
            rw [fo_snoc, ← hF]
            exact nxt_rg _ _ _ _ n2
        have kl := upw (P := fun k => 0 ≤ k → ∀ t, G 159 99 (some (.ref 51) :: some (vI last) :: some (vI i) :: some (vI (lg R (ρ 51 5))) :: some (vI (fo F 0 k.toNat (-1))) :: some (vI k) :: t) [] (toM ρ' τ) Q) (n := i + 1) ?_ ?_ (i + 1).toNat
        · rw [show i + 1 - (((i + 1).toNat : Nat) : Int) = 0 by omega] at kl
          exact kl (by omega) _
        · intro k k1 IH k2 t
          have ih := IH (by omega)
          have a1 := ab k.toNat
          rw [show (k + 1).toNat = k.toNat + 1 by omega, fo_snoc, show (0 : Int) + (k.toNat : Int) = k by omega] at ih
          generalize hA : fo F 0 k.toNat (-1) = a at a1 ih ⊢
          rw [s159_99 ρ' τ last i _ a k t hT' (by omega) (by omega) ⟨by omega, by omega⟩ (by omega) ⟨by omega, by omega⟩, nn, if_neg (by omega)]
          have hFk : F k a = nxt (ρ 51 5) (cnM ρ) R a (lg R (ρ 51 5) - k) := by rw [← hF]; rfl
          have dl := down (P := fun p => ∀ f t, ((f = -1 ∧ ∀ d, p < d → d < ρ 51 5 → ¬ (R d = lg R (ρ 51 5) - k ∧ (a = -1 ∨ cnM ρ a d))) ∨ (p < f ∧ 0 ≤ f ∧ f < ρ 51 5 ∧ (R f = lg R (ρ 51 5) - k ∧ (a = -1 ∨ cnM ρ a f)) ∧ ∀ d, p < d → d < f → ¬ (R d = lg R (ρ 51 5) - k ∧ (a = -1 ∨ cnM ρ a d)))) → G 159 116 (some (.ref 51) :: some (vI last) :: some (vI i) :: some (vI (lg R (ρ 51 5))) :: some (vI a) :: some (vI k) :: some (vI f) :: some (vI p) :: t) [] (toM ρ' τ) Q) (n := ρ 51 5) ?_ ?_ (ρ 51 5).toNat (by omega)
          · rw [show (((ρ 51 5).toNat : Nat) : Int) - 1 = ρ 51 5 - 1 by omega] at dl
            exact dl (-1) _ (Or.inl ⟨rfl, fun d d1 d2 => by omega⟩)
          · intro p p1 p2 IH3 f t hf
            have fb : -1 ≤ f ∧ f < ρ 51 5 := by rcases hf with ⟨e, -⟩ | ⟨-, e1, e2, -⟩ <;> omega
            rw [s159_116 ρ' τ last i _ a k f p t hT' (by omega) (by omega) ⟨by omega, by omega⟩ (by omega) ⟨by omega, by omega⟩ (by omega) ⟨by omega, by omega⟩, if_neg (by omega), hv p p1 p2, show p + (-1) = p - 1 by omega]
            have kk := cn_same hS' a p
            have v1 : vv R p = lg R (ρ 51 5) - k ↔ R p = lg R (ρ 51 5) - k := by unfold vv; split <;> omega
            have yes : (R p = lg R (ρ 51 5) - k ∧ (a = -1 ∨ cnM ρ a p)) → G 159 116 (some (.ref 51) :: some (vI last) :: some (vI i) :: some (vI (lg R (ρ 51 5))) :: some (vI a) :: some (vI k) :: some (vI p) :: some (vI (p - 1)) :: t) [] (toM ρ' τ) Q := fun z => IH3 p t (Or.inr ⟨by omega, p1, p2, z, fun d d1 d2 => by omega⟩)
            have no : ¬ (R p = lg R (ρ 51 5) - k ∧ (a = -1 ∨ cnM ρ a p)) → G 159 116 (some (.ref 51) :: some (vI last) :: some (vI i) :: some (vI (lg R (ρ 51 5))) :: some (vI a) :: some (vI k) :: some (vI f) :: some (vI (p - 1)) :: t) [] (toM ρ' τ) Q := fun z => IH3 f t (by
              rcases hf with ⟨e, e1⟩ | ⟨e0, e1, e2, e3, e4⟩
              · refine Or.inl ⟨e, fun d d1 d2 => ?_⟩
                by_cases c : d = p
                · rw [c]; exact z
                · exact e1 d (by omega) d2
              · refine Or.inr ⟨by omega, e1, e2, e3, fun d d1 d2 => ?_⟩
                by_cases c : d = p
                · rw [c]; exact z
                · exact e4 d (by omega) d2)
            by_cases w1 : vv R p = lg R (ρ 51 5) - k
            · rw [if_pos w1]
              by_cases w2 : a = -1
              · rw [if_pos w2]
                exact yes ⟨v1.mp w1, Or.inl w2⟩
              · rw [if_neg w2]
                by_cases w3 : cnM ρ' a p
                · rw [if_pos w3]
                  exact yes ⟨v1.mp w1, Or.inr (kk.mp w3)⟩
                · rw [if_neg w3]
                  exact no (fun z => z.2.elim w2 (fun q => w3 (kk.mpr q)))
            · rw [if_neg w1]
              exact no (fun z => w1 (v1.mpr z.1))
          · intro f t hf
            have fb : -1 ≤ f ∧ f < ρ 51 5 := by rcases hf with ⟨e, -⟩ | ⟨-, e1, e2, -⟩ <;> omega
            rw [s159_116 ρ' τ last i _ a k f (-1) t hT' (by omega) (by omega) ⟨by omega, by omega⟩ (by omega) ⟨by omega, by omega⟩ (by omega) ⟨by omega, by omega⟩, if_pos (by omega)]
            have e : f = F k a := by
              rw [hFk]
              refine LF_u ?_ (nxt_LF (cnM ρ) R a (lg R (ρ 51 5) - k) n2)
              rcases hf with ⟨e, e1⟩ | ⟨e0, e1, e2, e3, e4⟩
              · exact Or.inl ⟨e, fun d d1 d2 => e1 d (by omega) d2⟩
              · exact Or.inr ⟨e1, e2, e3, fun d d1 d2 => e4 d (by omega) d2⟩
            rw [e]
            exact ih _
        · intro _ t
          have a1 := ab (i + 1).toNat
          rw [s159_99 ρ' τ last i _ _ _ t hT' (by omega) (by omega) ⟨by omega, by omega⟩ (by omega) ⟨by omega, by omega⟩, if_pos (by omega)]
          exact hq
      · rw [if_neg c1]
        rw [if_neg c1] at hq
        exact hq
end MO2
theorem ag_most (a i : Int) (ha : SB a) (hi : SB i) : Agree 98 159 [some (vI a), some (vI i)] := by
  intro ρ τ h
  have hT := h.1
  obtain ⟨n1, n2, n3⟩ := h.dn
  have main : -1 ≤ a → a < ρ 51 5 → -1 ≤ i → G 17 0 [some (.ref 2), some (vI a)] [] (toM ρ τ) (fun v μ2 => G 98 35 (some (.ref 0) :: some (vI a) :: some (vI i) :: []) (v.toList ++ []) μ2 (fun v μ => ∃ r, SB r ∧ v = some (vI r) ∧ G 159 0 (some (.ref 51) :: [some (vI a), some (vI i)]) [] μ (fun v' μ' => v' = some (vI r) ∧ ∃ ρ2 τ2, μ' = toM ρ2 τ2 ∧ RR ρ2))) := by
    intro a1 a2 i1
    refine c_rows h (by omega) (fun ρ1 hM => ?_)
    obtain ⟨hT1, hS1, hM⟩ := hM
    have h1 := RR_same h hT1 hS1
    have u1 : ρ1 51 5 = ρ 51 5 := hS1 51 5 (by unfold scr; omega)
    have u2 : cnM ρ1 = cnM ρ := funext fun i => funext fun j => propext (cn_same hS1 i j)
    obtain ⟨m1, m2, m3⟩ := h1.dn
    have hR : ∀ d, 0 ≤ d → d < ρ1 51 5 → IsR (ρ1 51 5) a (cnM ρ1) (ρ1 31) d ∧ ρ1 31 d ≤ 10 := fun d d1 d2 => by
      have q := pl_bd (ρ := ρ) (d := d) ⟨d1, by omega⟩
      have := hM d d1 (by omega) (by omega)
      rw [u1, u2]
      exact ⟨this.1, by omega⟩
    have bD := lg_bd (R := ρ1 31) (D := ρ1 51 5) m2 (fun x x1 x2 => ⟨(hR x x1 x2).1.1, (hR x x1 x2).2⟩)
    have fin : ∀ r, r = (if i = -1 then lg (ρ1 31) (ρ1 51 5) else if i < lg (ρ1 31) (ρ1 51 5) then fo (nxF (ρ1 51 5) (nxt (ρ1 51 5) (cnM ρ1) (ρ1 31)) (lg (ρ1 31) (ρ1 51 5))) 0 (i + 1).toNat (-1) else -1) → G 159 0 (some (.ref 51) :: [some (vI a), some (vI i)]) [] (toM ρ1 τ) (fun v' μ' => v' = some (vI r) ∧ ∃ ρ2 τ2, μ' = toM ρ2 τ2 ∧ RR ρ2) := fun r hr => by
      have mm := m_most (τ := τ) (Q := fun v' μ' => v' = some (vI r) ∧ ∃ ρ2 τ2, μ' = toM ρ2 τ2 ∧ RR ρ2) h1 (last := a) (i := i) (by omega) hi i1 hR (fun ρ' hT' hS' => ⟨by rw [hr], ρ', τ, rfl, RR_same h1 hT' hS'⟩)
      rw [s159 ρ1 τ a i hT1 ha hi]
      by_cases e : a = -1
      · rw [if_pos e, if_pos i1]
        exact mm
      · rw [if_neg e, if_pos (by omega), if_pos i1]
        exact mm
    show G 98 35 (some (.ref 0) :: some (vI a) :: some (vI i) :: []) ((none : Option Value).toList ++ []) (toM ρ1 τ) _
    rw [b98_35 ρ1 τ a i [] hT1.1 ha hi]
    by_cases c : i = -1
    · rw [if_pos c, c_longest hT1, m1, b98_47 ρ1 τ a i [] _ hT1.1 ha hi ⟨by omega, by omega⟩]
      exact ⟨_, ⟨by omega, by omega⟩, rfl, fin _ (by rw [if_pos c])⟩
    · have rg : -1 ≤ (if i < lg (ρ1 31) (ρ1 51 5) then fo (nxF (ρ1 51 5) (nxt (ρ1 51 5) (cnM ρ1) (ρ1 31)) (lg (ρ1 31) (ρ1 51 5))) 0 (i + 1).toNat (-1) else -1) ∧ (if i < lg (ρ1 31) (ρ1 51 5) then fo (nxF (ρ1 51 5) (nxt (ρ1 51 5) (cnM ρ1) (ρ1 31)) (lg (ρ1 31) (ρ1 51 5))) 0 (i + 1).toNat (-1) else -1) ≤ 10 := by
        split
        · rw [show (i + 1).toNat = i.toNat + 1 by omega, fo_snoc]
          have := nxt_rg (cnM ρ1) (ρ1 31) (fo (nxF (ρ1 51 5) (nxt (ρ1 51 5) (cnM ρ1) (ρ1 31)) (lg (ρ1 31) (ρ1 51 5))) 0 i.toNat (-1)) (lg (ρ1 31) (ρ1 51 5) - (0 + (i.toNat : Int))) m2
          unfold nxF at this ⊢
          omega
        · omega
      rw [if_neg c, c_inRow h1 hi (by omega), b98_58 ρ1 τ a i [] _ hT1.1 ha hi ⟨by omega, by omega⟩]
      exact ⟨_, ⟨by omega, by omega⟩, rfl, fin _ (by rw [if_neg c])⟩
  rw [b98_0 ρ τ a i hT.1 ha hi]
  by_cases e : a = -1
  · rw [if_pos e]
    split
    · rename_i c
      exact main (by omega) (by omega) c
    · refine ⟨_, by decide, rfl, ?_⟩
      rw [s159 ρ τ a i hT ha hi, if_pos e, if_neg (by omega)]
      exact ag_end rfl h
  · rw [if_neg e, c_dhas hT ha, n1, b98_13 ρ τ a i [] _ hT.1 ha hi (tv_sm _)]
    by_cases c : 0 ≤ a ∧ a < ρ 51 5
    · rw [if_neg (by rw [tv_0]; omega)]
      split
      · rename_i c2
        exact main (by omega) (by omega) c2
      · refine ⟨_, by decide, rfl, ?_⟩
        rw [s159 ρ τ a i hT ha hi, if_neg e, if_pos (by omega), if_neg (by omega)]
        exact ag_end rfl h
    · rw [if_pos (by rw [tv_0]; omega)]
      refine ⟨_, by decide, rfl, ?_⟩
      rw [s159 ρ τ a i hT ha hi, if_neg e, if_neg (by omega)]
      exact ag_end rfl h
