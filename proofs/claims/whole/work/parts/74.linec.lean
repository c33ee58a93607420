/-! a line: the class reads it -/
section LC2
variable {τ : Int64} {Q : Option Value → mm → Prop}
theorem c_nums {k h w d s l : Int} (hk : 1 ≤ k ∧ k ≤ 7) (hl : 0 ≤ l ∧ l < 10) (hf : ¬ fuL k w d s) : ∀ (q : Nat) (i : Int) (ρ : rm) (N : Int → Int) (t : List (Option Value)), TI ρ → (0 ≤ ρ 5 4 ∧ ρ 5 4 ≤ ρ 4 1) → 0 ≤ i → i + q = nOf k → ρ 5 0 = l → (ρ 5 8 = h ∧ ρ 5 9 = w ∧ ρ 5 10 = d ∧ ρ 5 11 = s) → (∀ j, 0 ≤ j → j < i → ρ 39 (5 * l + j) = N j) → PN k h N i →
    (∀ f, rdN (ρ 37) (ρ 4 1) k h q i (ρ 5 4) N = .inl f → ∀ ρ', TI ρ' → KL l ρ ρ' → ρ' 5 6 = f → Q (some (vI 0)) (toM ρ' τ)) →
    (∀ p' N', rdN (ρ 37) (ρ 4 1) k h q i (ρ 5 4) N = .inr (p', N') → ∀ ρ', TI ρ' → KL l ρ ρ' → ρ' 5 4 = p' → ρ' 38 l = k → (∀ j, 0 ≤ j → j < nOf k → ρ' 39 (5 * l + j) = N' j) → ρ' 5 8 = nh k (N' 0) h → ρ' 5 9 = nw k w → ρ' 5 10 = nd k d → ρ' 5 11 = ns k s → Q (some (vI 1)) (toM ρ' τ)) →
    G 44 25 (some (.ref 5) :: some (vI (5 * l)) :: some (vI k) :: some (vI i) :: t) [] (toM ρ τ) Q := by
  have hn := nOf_rg k
  intro q
  induction q with
  | zero =>
    intro i ρ N t hT hp h0 hi hl0 hst hN hP Hf Hs
    have h39 : 0 ≤ ρ 39 (5 * l) ∧ ρ 39 (5 * l) ≤ 9999 := hT.2 39 _
    rw [b44_25 ρ τ (5 * l) k i t hT.1 ⟨by omega, by omega⟩ ⟨by omega, by omega⟩ ⟨by omega, by omega⟩, c_numOf hT.1 ⟨by omega, by omega⟩, b44_30 ρ τ (5 * l) k i t i _ hT.1 ⟨by omega, by omega⟩ ⟨by omega, by omega⟩ ⟨by omega, by omega⟩ ⟨by omega, by omega⟩ ⟨by omega, by omega⟩, if_pos (by omega), if_pos (by omega), if_pos (by omega), hl0]
    have hT1 := TI_up hT 38 l (x := k) (show 0 ≤ k ∧ k ≤ 7 by omega) (by omega)
    have g8 : rup ρ 38 l k 5 8 = h := by rw [rup_ne _ _ _ _ (by decide)]; exact hst.1
    have g9 : rup ρ 38 l k 5 9 = w := by rw [rup_ne _ _ _ _ (by decide)]; exact hst.2.1
    have g10 : rup ρ 38 l k 5 10 = d := by rw [rup_ne _ _ _ _ (by decide)]; exact hst.2.2.1
    have g11 : rup ρ 38 l k 5 11 = s := by rw [rup_ne _ _ _ _ (by decide)]; exact hst.2.2.2
    have g4 : rup ρ 38 l k 5 4 = ρ 5 4 := rup_ne _ _ _ _ (by decide)
    have g39 : rup ρ 38 l k 39 = ρ 39 := rup_fn (by decide)
    have g38 : rup ρ 38 l k 38 l = k := rup_same _ _ _ _
    have kk : KL l ρ (rup ρ 38 l k) := KL.up38 (KL.of (K5.refl ρ)) k
    have g0 : rup ρ 38 l k 5 0 = ρ 5 0 := rup_ne _ _ _ _ (by decide)
    generalize rup ρ 38 l k = ρ1 at hT1 g8 g9 g10 g11 g4 g39 g38 kk g0 ⊢
    refine c_fore hT1 ⟨by omega, by omega⟩ ⟨by omega, by omega⟩ (fun c1 => ?_) (by rw [g9, g10, g11]; exact hf) (fun ρ' t1 t2 t3 t4 t5 t6 => ?_)
    · have hn1 : nOf k = 1 := by unfold nOf; rw [if_pos c1]
      have q1 := hP 0 (by omega) (by omega)
      have q2 := hN 0 (by omega) (by omega)
      have q3 := q1.2.2
      unfold grO at q3
      rw [if_pos c1] at q3
      rw [show 5 * l + 0 = 5 * l by omega] at q2
      omega
    · show G 44 96 (some (.ref 5) :: some (vI (5 * l)) :: some (vI k) :: some (vI i) :: t) ((none : Option Value).toList ++ []) (toM ρ' τ) Q
      rw [b44_96 ρ' τ (5 * l) k i t t1.1 ⟨by omega, by omega⟩ ⟨by omega, by omega⟩ ⟨by omega, by omega⟩]
      refine Hs _ N rfl ρ' t1 ⟨fun a j x y z => by rw [t2 a j (fun e => x e.1)]; exact kk.1 a j x y z, by rw [t2 5 0 (by omega), g0]⟩ (by rw [t2 5 4 (by omega), g4]) (by rw [t2 38 l (by omega), g38]) (fun j j1 j2 => ?_) ?_ (by rw [t4, g9]) (by rw [t5, g10]) (by rw [t6, g11])
      · rw [t2 39 _ (by omega), g39]
        exact hN j j1 (by omega)
      · rw [t3, g8]
        unfold nh
        by_cases c1 : k = 1
        · rw [if_pos c1, if_pos c1]
          have hn1 : nOf k = 1 := by unfold nOf; rw [if_pos c1]
          have q2 := hN 0 (by omega) (by omega)
          rw [show 5 * l + 0 = 5 * l by omega] at q2
          exact q2
        · rw [if_neg c1, if_neg c1]
  | succ q ih =>
    intro i ρ N t hT hp h0 hi hl0 hst hN hP Hf Hs
    have hh : 0 ≤ h ∧ h ≤ 10 := by rw [← hst.1]; exact hT.2 5 8
    rw [b44_25 ρ τ (5 * l) k i t hT.1 ⟨by omega, by omega⟩ ⟨by omega, by omega⟩ ⟨by omega, by omega⟩, c_numOf hT.1 ⟨by omega, by omega⟩, b44_30 ρ τ (5 * l) k i t i _ hT.1 ⟨by omega, by omega⟩ ⟨by omega, by omega⟩ ⟨by omega, by omega⟩ ⟨by omega, by omega⟩ ⟨by omega, by omega⟩, if_neg (by omega)]
    refine c_tok _ ρ hT hp rfl (fun ρ1 t1 t2 t3 t4 t5 t6 => ?_)
    have eN : rdN (ρ 37) (ρ 4 1) k h (q + 1) i (ρ 5 4) N = if tkK (ρ 37) (ρ 4 1) (ρ1 5 6) = 2 ∧ okN k i (N 0) (N 1) h (tkV (ρ 37) (ρ 4 1) (ρ1 5 6)) then rdN (ρ 37) (ρ 4 1) k h q (i + 1) (tkE (ρ 37) (ρ 4 1) (ρ1 5 6)) (fun j => if j = i then tkV (ρ 37) (ρ 4 1) (ρ1 5 6) else N j) else .inl (ρ1 5 6) := by rw [t3]; rfl
    have b1 := tkS_bd (T := ρ 37) hp.2
    have b2 := tkE_bd (T := ρ 37) b1.2
    rw [← t3] at b1 b2
    have m39 : ρ1 39 = ρ 39 := t2.fn (by decide)
    have m37 : ρ1 37 = ρ 37 := t2.fn (by decide)
    have m41 : ρ1 4 1 = ρ 4 1 := t2 4 1 (by omega)
    have m0 : ρ1 5 0 = l := (t2 5 0 (by omega)).trans hl0
    have m8 : ρ1 5 8 = h := (t2 5 8 (by omega)).trans hst.1
    have m9 : ρ1 5 9 = w := (t2 5 9 (by omega)).trans hst.2.1
    have m10 : ρ1 5 10 = d := (t2 5 10 (by omega)).trans hst.2.2.1
    have m11 : ρ1 5 11 = s := (t2 5 11 (by omega)).trans hst.2.2.2
    show G 44 37 (some (.ref 5) :: some (vI (5 * l)) :: some (vI k) :: some (vI i) :: t) ((none : Option Value).toList ++ []) (toM ρ1 τ) Q
    rw [b44_37 ρ1 τ (5 * l) k i t t1.1 ⟨by omega, by omega⟩ ⟨by omega, by omega⟩ ⟨by omega, by omega⟩]
    by_cases c2 : ρ1 5 5 = 2
    · have t4' := t4
      rw [c2] at t4'
      have v1 := t6 t4'.symm
      rw [if_pos c2, c_stand t1 ⟨by omega, by omega⟩ ⟨by omega, by omega⟩ ⟨by omega, by omega⟩, b44_52 ρ1 τ (5 * l) k i t _ t1.1 ⟨by omega, by omega⟩ ⟨by omega, by omega⟩ ⟨by omega, by omega⟩ (tv_sm _), m39, m8, v1]
      have cg1 : i = 1 → ρ 39 (5 * l) = N 0 := fun z => by
        have := hN 0 (by omega) (by omega)
        rwa [show 5 * l + 0 = 5 * l by omega] at this
      have cg2 : i = 2 → ρ 39 (5 * l + 1) = N 1 := fun z => hN 1 (by omega) (by omega)
      by_cases c3 : okN k i (N 0) (N 1) h (tkV (ρ 37) (ρ 4 1) (ρ1 5 6))
      · have c4 := okN_cg (fun z => (cg1 z).symm) (fun z => (cg2 z).symm) c3
        have vr := okN_rg hh (fun z => (PN_rg hh hP (j := 1) (by omega) (by omega)).1) c3
        rw [if_neg (by rw [tv_0]; exact fun z => z c4), if_pos (by omega)]
        rw [if_pos ⟨t4'.symm, c3⟩] at eN
        have e1 : rup ρ1 39 (5 * l + i) (tkV (ρ 37) (ρ 4 1) (ρ1 5 6)) 37 = ρ 37 := by rw [rup_fn (by decide), m37]
        have e2 : rup ρ1 39 (5 * l + i) (tkV (ρ 37) (ρ 4 1) (ρ1 5 6)) 4 1 = ρ 4 1 := by rw [rup_ne _ _ _ _ (by decide), m41]
        have e3 : ∀ x, rup ρ1 39 (5 * l + i) (tkV (ρ 37) (ρ 4 1) (ρ1 5 6)) 5 x = ρ1 5 x := fun x => rup_ne _ _ _ _ (by decide)
        have kk : KL l ρ (rup ρ1 39 (5 * l + i) (tkV (ρ 37) (ρ 4 1) (ρ1 5 6))) := KL.up39 (KL.of t2) _ (by omega)
        refine ih (i + 1) _ (fun j => if j = i then tkV (ρ 37) (ρ 4 1) (ρ1 5 6) else N j) t (TI_up t1 39 _ (x := tkV (ρ 37) (ρ 4 1) (ρ1 5 6)) (show 0 ≤ tkV (ρ 37) (ρ 4 1) (ρ1 5 6) ∧ tkV (ρ 37) (ρ 4 1) (ρ1 5 6) ≤ 9999 by omega) (by omega)) (by rw [e2, e3, t5]; omega) (by omega) (by omega) (by rw [e3, m0]) (by rw [e3, e3, e3, e3]; exact ⟨m8, m9, m10, m11⟩) (fun j j1 j2 => ?_) (PN_up h0 hP c3) (fun f hf' ρ' u1 u2 u3 => ?_) (fun p' N' hf' ρ' u1 u2 u3 => ?_)
        · by_cases e : j = i
          · rw [e, rup_same]
            show _ = if i = i then _ else _
            rw [if_pos rfl]
          · rw [rup_sl (by omega), m39, hN j j1 (by omega)]
            show _ = if j = i then _ else _
            rw [if_neg e]
        · rw [e1, e2, e3, t5] at hf'
          exact Hf f (eN.trans hf') ρ' u1 (kk.trans u2) u3
        · rw [e1, e2, e3, t5] at hf'
          exact Hs p' N' (eN.trans hf') ρ' u1 (kk.trans u2) u3
      · rw [if_pos (by rw [tv_0]; exact fun z => c3 (okN_cg cg1 cg2 z))]
        rw [if_neg (fun z => c3 z.2)] at eN
        exact Hf _ eN ρ1 t1 (KL.of t2) rfl
    · rw [if_neg c2]
      rw [if_neg (fun z => c2 (t4.trans z.1))] at eN
      exact Hf _ eN ρ1 t1 (KL.of t2) rfl
theorem c_line {ρ : rm} {h w d s l : Int} (hl : 0 ≤ l ∧ l < 10) (hT : TI ρ) (hp : 0 ≤ ρ 5 4 ∧ ρ 5 4 ≤ ρ 4 1) (hl0 : ρ 5 0 = l) (hst : ρ 5 8 = h ∧ ρ 5 9 = w ∧ ρ 5 10 = d ∧ ρ 5 11 = s)
    (Hf : ∀ f, rdL (ρ 37) (ρ 4 1) h w d s (ρ 5 4) = .inl f → ∀ ρ', TI ρ' → KL l ρ ρ' → ρ' 5 6 = f → Q (some (vI 0)) (toM ρ' τ))
    (Hs : ∀ k p' N', rdL (ρ 37) (ρ 4 1) h w d s (ρ 5 4) = .inr (k, p', N') → ∀ ρ', TI ρ' → KL l ρ ρ' → ρ' 5 4 = p' → ρ' 38 l = k → (∀ j, 0 ≤ j → j < nOf k → ρ' 39 (5 * l + j) = N' j) → ρ' 5 8 = nh k (N' 0) h → ρ' 5 9 = nw k w → ρ' 5 10 = nd k d → ρ' 5 11 = ns k s → Q (some (vI 1)) (toM ρ' τ)) : G 44 0 [some (.ref 5), some (vI (5 * l))] [] (toM ρ τ) Q := by
  rw [b44_0 ρ τ (5 * l) hT.1 ⟨by omega, by omega⟩]
  refine c_tok _ ρ hT hp rfl (fun ρ1 t1 t2 t3 t4 t5 t6 => ?_)
  have b1 := tkS_bd (T := ρ 37) hp.2
  have b2 := tkE_bd (T := ρ 37) b1.2
  rw [← t3] at b1 b2
  have hn : 0 ≤ ρ 4 1 ∧ ρ 4 1 ≤ 200 := hT.2 4 1
  have m37 : ρ1 37 = ρ 37 := t2.fn (by decide)
  have m41 : ρ1 4 1 = ρ 4 1 := t2 4 1 (by omega)
  have m0 : ρ1 5 0 = l := (t2 5 0 (by omega)).trans hl0
  have m8 : ρ1 5 8 = h := (t2 5 8 (by omega)).trans hst.1
  have m9 : ρ1 5 9 = w := (t2 5 9 (by omega)).trans hst.2.1
  have m10 : ρ1 5 10 = d := (t2 5 10 (by omega)).trans hst.2.2.1
  have m11 : ρ1 5 11 = s := (t2 5 11 (by omega)).trans hst.2.2.2
  have ek : (if ρ1 5 5 = 1 then wdK (ρ1 37) (ρ1 5 6) (ρ1 5 4 - ρ1 5 6) else 0) = kdT (ρ 37) (ρ 4 1) (ρ1 5 6) := by rw [t4, t5, m37]; rfl
  have eL : rdL (ρ 37) (ρ 4 1) h w d s (ρ 5 4) = if kdT (ρ 37) (ρ 4 1) (ρ1 5 6) = 0 ∨ fuL (kdT (ρ 37) (ρ 4 1) (ρ1 5 6)) w d s then .inl (ρ1 5 6) else
      match rdN (ρ 37) (ρ 4 1) (kdT (ρ 37) (ρ 4 1) (ρ1 5 6)) h (nOf (kdT (ρ 37) (ρ 4 1) (ρ1 5 6))).toNat 0 (tkE (ρ 37) (ρ 4 1) (ρ1 5 6)) (fun _ => 0) with
      | .inl f => .inl f
      | .inr (p', N) => .inr (kdT (ρ 37) (ρ 4 1) (ρ1 5 6), p', N) := by rw [t3]; rfl
  have kr := kdT_rg (ρ 37) (ρ 4 1) (ρ1 5 6)
  generalize kdT (ρ 37) (ρ 4 1) (ρ1 5 6) = k at ek eL kr
  show G 44 4 (some (.ref 5) :: some (vI (5 * l)) :: []) ((none : Option Value).toList ++ []) (toM ρ1 τ) Q
  rw [b44_4 ρ1 τ (5 * l) [] t1.1 ⟨by omega, by omega⟩, c_kind t1.1 (by omega) (by omega), ek, b44_8 ρ1 τ (5 * l) [] k t1.1 ⟨by omega, by omega⟩ ⟨by omega, by omega⟩]
  by_cases c0 : k = 0
  · rw [if_pos c0]
    rw [if_pos (Or.inl c0)] at eL
    exact Hf _ eL ρ1 t1 (KL.of t2) rfl
  · rw [if_neg c0, c_full t1.1 ⟨by omega, by omega⟩, m9, m10, m11, b44_18 ρ1 τ (5 * l) k _ _ t1.1 ⟨by omega, by omega⟩ ⟨by omega, by omega⟩ (tv_sm _)]
    by_cases cf : fuL k w d s
    · rw [if_neg (by rw [tv_0]; exact fun z => z cf)]
      rw [if_pos (Or.inr cf)] at eL
      exact Hf _ eL ρ1 t1 (KL.of t2) rfl
    · rw [if_pos (by rw [tv_0]; exact cf)]
      rw [if_neg (fun z => z.elim c0 cf)] at eL
      have hn5 := nOf_rg k
      refine c_nums ⟨by omega, by omega⟩ hl cf (nOf k).toNat 0 ρ1 (fun _ => 0) _ t1 (by rw [m41, t5]; omega) (by omega) (by omega) m0 ⟨m8, m9, m10, m11⟩ (fun j j1 j2 => by omega) (fun j j1 j2 => by omega) (fun f hf' ρ' u1 u2 u3 => ?_) (fun p' N' hf' ρ' u1 u2 u3 => ?_)
      · rw [m37, m41, t5] at hf'
        rw [hf'] at eL
        exact Hf f eL ρ' u1 ((KL.of t2).trans u2) u3
      · rw [m37, m41, t5] at hf'
        rw [hf'] at eL
        exact Hs k p' N' eL ρ' u1 ((KL.of t2).trans u2) u3
end LC2
