/-! most: the rows of deeds -/
def IsR (D last : Int) (K : Int → Int → Prop) (R : Int → Int) (d : Int) : Prop :=
  0 ≤ R d ∧ (∀ j, 0 ≤ j → j < D → K d j → 0 < R j → R j + 1 ≤ R d) ∧ (last = -1 ∨ last = d → 1 ≤ R d) ∧ (0 < R d → (R d = 1 ∧ (last = -1 ∨ last = d)) ∨ ∃ j, 0 ≤ j ∧ j < D ∧ K d j ∧ 0 < R j ∧ R d = R j + 1)
theorem down {P : Int → Prop} {n : Int} (hs : ∀ i, 0 ≤ i → i < n → P (i - 1) → P i) (h0 : P (-1)) : ∀ (d : Nat), (d : Int) ≤ n → P ((d : Int) - 1)
  | 0, _ => by simpa using h0
  | d + 1, h => by
    have := hs (d : Int) (by omega) (by omega) (down hs h0 d (by omega))
    rw [show ((d + 1 : Nat) : Int) - 1 = (d : Int) by omega]
    exact this
theorem upw {P : Int → Prop} {n : Int} (hs : ∀ i, i < n → P (i + 1) → P i) (h0 : P n) : ∀ (d : Nat), P (n - d)
  | 0 => by simpa using h0
  | d + 1 => by
    refine hs _ (by omega) ?_
    rw [show n - ((d + 1 : Nat) : Int) + 1 = n - d by omega]
    exact upw hs h0 d
section MO
variable {ρ : rm} {τ : Int64} {Q : Option Value → mm → Prop}
theorem cn_eq (h : RR ρ) {i j : Int} (hi : 0 ≤ i ∧ i < ρ 51 5) (hj : 0 ≤ j ∧ j < ρ 51 5) : cnC ρ i j ↔ cnM ρ i j := by
  have b1 := h.bg hi
  have b2 := h.bg hj
  have d1 := h.de hi
  have d2 := h.de hj
  have e4 : ρ (17 + (ρ 27 i).toNat) (ρ 27 j) = ρ 57 (10 * ρ 55 (3 * i) + ρ 55 (3 * j)) := by
    rw [d1.1, d2.1]
    exact h.gr (by omega) (by omega)
  unfold bgn at b1 b2
  constructor
  · rintro ⟨z1, z2⟩
    exact ⟨by omega, by omega⟩
  · rintro ⟨z1, z2⟩
    exact ⟨by omega, by omega⟩
theorem cn_same {ρ ρ' : rm} (h : Same ρ ρ') (i j : Int) : cnM ρ' i j ↔ cnM ρ i j := by
  have u1 : ρ' 55 = ρ 55 := h.fn (fun j => by unfold scr; omega)
  have u2 : ρ' 57 = ρ 57 := h.fn (fun j => by unfold scr; omega)
  have u3 := oS_same h
  unfold cnM
  rw [u1, u2, u3]
theorem cn_ah {i j : Int} (h : cnM ρ i j) : ahd (bgn ρ) i j := h.1
/-- the place of a deed -/
def pl (ρ : rm) (d : Int) : Int := rk (bgn ρ) (ρ 51 5) d
theorem pl_by (h : RR ρ) {i : Int} (hi : 0 ≤ i ∧ i < ρ 51 5) : pl ρ (ρ 30 i) = i := rk_by h.by.1 h.by.2 hi
theorem pl_bd {d : Int} (hd : 0 ≤ d ∧ d < ρ 51 5) : 0 ≤ pl ρ d ∧ pl ρ d < ρ 51 5 := rk_bd hd
theorem pl_inj {a b : Int} (ha : 0 ≤ a ∧ a < ρ 51 5) (hb : 0 ≤ b ∧ b < ρ 51 5) (h : pl ρ a = pl ρ b) : a = b := rk_inj ha hb h
theorem pl_lt {a b : Int} (ha : 0 ≤ a ∧ a < ρ 51 5) (h : cnM ρ a b) : pl ρ a < pl ρ b := rk_lt ha (cn_ah h)
/-- rows behind place p are measured -/
def MI (ρ : rm) (last p : Int) (ρ' : rm) : Prop := TI ρ' ∧ Same ρ ρ' ∧ ∀ d, 0 ≤ d → d < ρ 51 5 → p < pl ρ d → IsR (ρ 51 5) last (cnM ρ) (ρ' 31) d ∧ ρ' 31 d ≤ ρ 51 5 - pl ρ d
theorem mi_step (h : RR ρ) {last p s v : Int} {ρ' : rm} (hp : 0 ≤ p ∧ p < ρ 51 5) (hM : MI ρ last p ρ') (s1 : 0 ≤ s ∧ s ≤ ρ 51 5 - p - 1)
    (s2 : ∀ d, 0 ≤ d → d < ρ 51 5 → p < pl ρ d → cnM ρ (ρ 30 p) d → ρ' 31 d ≤ s) (s3 : 0 < s → ∃ d, 0 ≤ d ∧ d < ρ 51 5 ∧ p < pl ρ d ∧ cnM ρ (ρ 30 p) d ∧ ρ' 31 d = s)
    (hv : v = if 0 < s ∨ last = -1 ∨ last = ρ 30 p then s + 1 else 0) : MI ρ last (p - 1) (rup ρ' 31 (ρ 30 p) v) := by
  have hn := h.dn
  obtain ⟨hT', hS, hR⟩ := hM
  have hx := h.by.1 p hp.1 hp.2
  have px := pl_by h hp
  have hv2 : 0 ≤ v ∧ v ≤ ρ 51 5 - p := by rw [hv]; split <;> omega
  refine ⟨TI_up hT' 31 _ (x := v) (show 0 ≤ v ∧ v ≤ 10 by omega) (by omega), hS.up _ (by unfold scr; omega), fun d d1 d2 d3 => ?_⟩
  have oth : ∀ j, j ≠ ρ 30 p → rup ρ' 31 (ρ 30 p) v 31 j = ρ' 31 j := fun j hj => rup_sl hj
  by_cases e : d = ρ 30 p
  · subst e
    have me : rup ρ' 31 (ρ 30 p) v 31 (ρ 30 p) = v := rup_same _ _ _ _
    have later : ∀ j, 0 ≤ j → j < ρ 51 5 → cnM ρ (ρ 30 p) j → p < pl ρ j ∧ j ≠ ρ 30 p := fun j j1 j2 j3 => by
      have := pl_lt hx j3
      rw [px] at this
      exact ⟨this, fun z => by rw [z, px] at this; omega⟩
    refine ⟨⟨by rw [me]; omega, fun j j1 j2 j3 j4 => ?_, fun z => ?_, fun z => ?_⟩, by rw [me, px]; omega⟩
    · obtain ⟨l1, l2⟩ := later j j1 j2 j3
      rw [oth j l2] at j4 ⊢
      rw [me, hv]
      have := s2 j j1 j2 l1 j3
      rw [if_pos (by omega)]
      omega
    · rw [me, hv, if_pos (Or.inr z)]
      omega
    · rw [me] at z ⊢
      rw [hv] at z
      split at z
      · rename_i c
        have hv9 : v = s + 1 := by rw [hv, if_pos c]
        by_cases c2 : 0 < s
        · obtain ⟨j, j1, j2, j3, j4, j5⟩ := s3 c2
          obtain ⟨l1, l2⟩ := later j j1 j2 j4
          exact Or.inr ⟨j, j1, j2, j4, by rw [oth j l2]; omega, by rw [oth j l2]; omega⟩
        · exact Or.inl ⟨by omega, c.resolve_left c2⟩
      · omega
  · have e2 : p < pl ρ d := by
      by_cases e3 : pl ρ d = p
      · exact absurd (pl_inj ⟨d1, d2⟩ hx (by rw [e3, px])) e
      · omega
    obtain ⟨⟨r1, r2, r3, r4⟩, r5⟩ := hR d d1 d2 e2
    have later : ∀ j, 0 ≤ j → j < ρ 51 5 → cnM ρ d j → j ≠ ρ 30 p := fun j j1 j2 j3 z => by
      have := pl_lt ⟨d1, d2⟩ j3
      rw [z, px] at this
      omega
    refine ⟨⟨by rw [oth d e]; exact r1, fun j j1 j2 j3 j4 => ?_, fun z => by rw [oth d e]; exact r3 z, fun z => ?_⟩, by rw [oth d e]; exact r5⟩
    · rw [oth j (later j j1 j2 j3)] at j4 ⊢
      rw [oth d e]
      exact r2 j j1 j2 j3 j4
    · rw [oth d e] at z ⊢
      rcases r4 z with q | ⟨j, j1, j2, j3, j4, j5⟩
      · exact Or.inl q
      · exact Or.inr ⟨j, j1, j2, j3, by rw [oth j (later j j1 j2 j3)]; exact j4, by rw [oth j (later j j1 j2 j3)]; exact j5⟩
theorem c_rows (h : RR ρ) {last : Int} (hl : -1 ≤ last ∧ last < 10) (hQ : ∀ ρ', MI ρ last (-1) ρ' → Q none (toM ρ' τ)) : G 17 0 [some (.ref 2), some (vI last)] [] (toM ρ τ) Q := by
  have hT := h.1
  obtain ⟨n1, n2, n3⟩ := h.dn
  rw [s17 ρ τ last hT hl, n1]
  have key := down (P := fun p => ∀ ρ' t, MI ρ last p ρ' → G 17 7 (some (.ref 2) :: some (vI last) :: some (vI p) :: t) [] (toM ρ' τ) Q) (n := ρ 51 5) ?_ ?_ (ρ 51 5).toNat (by omega)
  · rw [show (((ρ 51 5).toNat : Nat) : Int) - 1 = ρ 51 5 - 1 by omega] at key
    exact key ρ _ ⟨hT, Same.refl ρ, fun d d1 d2 d3 => by have := pl_bd (ρ := ρ) ⟨d1, d2⟩; omega⟩
  · intro p p1 p2 IH ρ' t hM
    have hS := hM.2.1
    have hT' := hM.1
    have hR' := RR_same h hT' hS
    have u0 : ρ' 2 4 = ρ 51 5 := (hS 2 4 (by unfold scr; omega)).trans n1
    have u1 : ρ' 51 5 = ρ 51 5 := hS 51 5 (by unfold scr; omega)
    have u3 : ρ' 30 = ρ 30 := hS.fn (fun j => by unfold scr; omega)
    have hx := h.by.1 p p1 p2
    rw [s17_7 ρ' τ last p t hT' hl ⟨by omega, by omega⟩, if_neg (by omega), u3]
    have inner := upw (P := fun n => p < n → ∀ s t, (0 ≤ s ∧ s ≤ ρ 51 5 - p - 1) → (∀ d, 0 ≤ d → d < ρ 51 5 → p < pl ρ d → pl ρ d < n → cnM ρ (ρ 30 p) d → ρ' 31 d ≤ s) → (0 < s → ∃ d, 0 ≤ d ∧ d < ρ 51 5 ∧ p < pl ρ d ∧ pl ρ d < n ∧ cnM ρ (ρ 30 p) d ∧ ρ' 31 d = s) → G 17 26 (some (.ref 2) :: some (vI last) :: some (vI p) :: some (vI (ρ 30 p)) :: some (vI s) :: some (vI n) :: t) [] (toM ρ' τ) Q) (n := ρ 51 5) ?_ ?_ (ρ 51 5 - (p + 1)).toNat
    · rw [show ρ 51 5 - (((ρ 51 5 - (p + 1)).toNat : Nat) : Int) = p + 1 by omega] at inner
      exact inner (by omega) 0 _ (by omega) (fun d d1 d2 d3 d4 _ => by omega) (fun z => by omega)
    · intro n n4 IH2 n5 s t s1 s2 s3
      have hy := h.by.1 n (by omega) n4
      have py := pl_by h (i := n) ⟨by omega, n4⟩
      obtain ⟨⟨r1, -⟩, r5⟩ := hM.2.2 (ρ 30 n) hy.1 hy.2 (by omega)
      rw [s17_26 ρ' τ last p (ρ 30 p) s n t hT' hl ⟨by omega, by omega⟩ ⟨by omega, by omega⟩ ⟨by omega, by omega⟩ ⟨by omega, by omega⟩, if_neg (by omega), u3]
      have kk := (cn_eq hR' (i := ρ 30 p) (j := ρ 30 n) (by omega) (by omega)).trans (cn_same hS _ _)
      by_cases hc : cnM ρ (ρ 30 p) (ρ 30 n)
      · rw [if_pos (kk.mpr hc)]
        refine IH2 (by omega) _ _ (by omega) (fun d d1 d2 d3 d4 d5 => ?_) (fun z => ?_)
        · by_cases e : pl ρ d = n
          · rw [pl_inj ⟨d1, d2⟩ hy (by rw [e, py])]
            omega
          · have := s2 d d1 d2 d3 (by omega) d5
            omega
        · by_cases c : ρ' 31 (ρ 30 n) ≤ s
          · rw [Int.max_eq_left c] at z ⊢
            obtain ⟨d, d1, d2, d3, d4, d5, d6⟩ := s3 z
            exact ⟨d, d1, d2, d3, by omega, d5, d6⟩
          · rw [Int.max_eq_right (by omega)]
            exact ⟨ρ 30 n, hy.1, hy.2, by omega, by omega, hc, rfl⟩
      · rw [if_neg (fun z => hc (kk.mp z))]
        refine IH2 (by omega) _ _ s1 (fun d d1 d2 d3 d4 d5 => ?_) (fun z => ?_)
        · by_cases e : pl ρ d = n
          · rw [pl_inj ⟨d1, d2⟩ hy (by rw [e, py])] at d5
            exact absurd d5 hc
          · exact s2 d d1 d2 d3 (by omega) d5
        · obtain ⟨d, d1, d2, d3, d4, d5, d6⟩ := s3 z
          exact ⟨d, d1, d2, d3, by omega, d5, d6⟩
    · intro n5 s t s1 s2 s3
      have fin : ∀ v, v = (if 0 < s ∨ last = -1 ∨ last = ρ 30 p then s + 1 else 0) → MI ρ last (p - 1) (rup ρ' 31 (ρ 30 p) v) := fun v hv => mi_step h ⟨p1, p2⟩ hM s1 (fun d d1 d2 d3 d4 => s2 d d1 d2 d3 (pl_bd ⟨d1, d2⟩).2 d4) (fun z => by obtain ⟨d, d1, d2, d3, d4, d5, d6⟩ := s3 z; exact ⟨d, d1, d2, d3, d5, d6⟩) hv
      rw [s17_26 ρ' τ last p (ρ 30 p) s _ t hT' hl ⟨by omega, by omega⟩ ⟨by omega, by omega⟩ ⟨by omega, by omega⟩ ⟨by omega, by omega⟩, if_pos (by omega)]
      have e9 : p + (-1) = p - 1 := by omega
      rw [e9]
      (repeat' split) <;> exact IH _ _ (fin _ (by omega))
  · intro ρ' t hM
    rw [s17_7 ρ' τ last (-1) t hM.1 hl (by omega), if_pos (by omega)]
    exact hQ ρ' hM
/-! the longest -/
def lgF (R : Int → Int) (d s : Int) : Int := max s (R d)
def lg (R : Int → Int) (D : Int) : Int := fo (lgF R) 0 D.toNat 0
theorem lg_keep {R : Int → Int} {D : Int} (hR : ∀ d, 0 ≤ d → d < D → 0 ≤ R d ∧ R d ≤ 10) : ∀ i s, i < D → (0 ≤ i ∧ 0 ≤ s ∧ s ≤ 10) → (0 ≤ i + 1 ∧ 0 ≤ lgF R i s ∧ lgF R i s ≤ 10) := by
  rintro i s h1 ⟨h2, h3, h4⟩
  have := hR i h2 h1
  unfold lgF
  omega
theorem lg_bd {R : Int → Int} {D : Int} (hD : 0 ≤ D) (hR : ∀ d, 0 ≤ d → d < D → 0 ≤ R d ∧ R d ≤ 10) : 0 ≤ lg R D ∧ lg R D ≤ 10 := (fo_inv (lg_keep hR) D.toNat 0 0 (by omega) (by omega)).2
theorem c_longest (hT : TI ρ) : G 18 0 [some (.ref 2)] [] (toM ρ τ) Q = Q (some (vI (lg (ρ 31) (ρ 2 4)))) (toM ρ τ) := by
  have hn : 0 ≤ ρ 2 4 ∧ ρ 2 4 ≤ 10 := hT.2 2 4
  have hR : ∀ d, 0 ≤ d → d < ρ 2 4 → 0 ≤ ρ 31 d ∧ ρ 31 d ≤ 10 := fun d _ _ => hT.2 31 d
  rw [s18 ρ τ hT]
  refine lp (S := Int) (P := fun i s t => G 18 4 (some (.ref 2) :: some (vI s) :: some (vI i) :: t) [] (toM ρ τ) Q) (inv := fun i s => 0 ≤ i ∧ 0 ≤ s ∧ s ≤ 10) (n := ρ 2 4) (f := lgF (ρ 31)) ?_ (lg_keep hR) (ρ 2 4).toNat 0 0 [] (by omega) (by omega) ?_
  · rintro i s t h1 ⟨h2, h3, h4⟩ H
    show G 18 4 (some (.ref 2) :: some (vI s) :: some (vI i) :: t) [] (toM ρ τ) Q = _
    rw [s18_4 ρ τ s i t hT ⟨by omega, by omega⟩ ⟨by omega, by omega⟩, if_neg (by omega)]
    exact H _ _ rfl
  · intro h2 t'
    have := lg_bd hn.1 hR
    show G 18 4 (some (.ref 2) :: some (vI (lg (ρ 31) (ρ 2 4))) :: some (vI (ρ 2 4)) :: t') [] (toM ρ τ) Q = _
    rw [s18_4 ρ τ _ _ t' hT ⟨by omega, by omega⟩ ⟨by omega, by omega⟩, if_pos (by omega)]
/-! the next of a row -/
def LF (D : Int) (K : Int → Int → Prop) (R : Int → Int) (a v r : Int) : Prop :=
  (r = -1 ∧ ∀ d, 0 ≤ d → d < D → ¬ (R d = v ∧ (a = -1 ∨ K a d))) ∨ (0 ≤ r ∧ r < D ∧ (R r = v ∧ (a = -1 ∨ K a r)) ∧ ∀ d, 0 ≤ d → d < r → ¬ (R d = v ∧ (a = -1 ∨ K a d)))
theorem LF_u {D : Int} {K : Int → Int → Prop} {R : Int → Int} {a v r r' : Int} (h : LF D K R a v r) (h' : LF D K R a v r') : r = r' := by
  rcases h with ⟨e, h1⟩ | ⟨r1, r2, r3, r4⟩
  · rcases h' with ⟨e', -⟩ | ⟨s1, s2, s3, -⟩
    · omega
    · exact absurd s3 (h1 r' s1 s2)
  · rcases h' with ⟨e', h1'⟩ | ⟨s1, s2, s3, s4⟩
    · exact absurd r3 (h1' r r1 r2)
    · by_cases c : r < r'
      · exact absurd r3 (s4 r r1 c)
      · by_cases c2 : r' < r
        · exact absurd s3 (r4 r' s1 c2)
        · omega
theorem LF_ex (D : Int) (K : Int → Int → Prop) (R : Int → Int) (a v : Int) (hD : 0 ≤ D) : ∃ r, LF D K R a v r := by
  have key : ∀ n : Nat, ∃ r, LF (n : Int) K R a v r := by
    intro n
    induction n with
    | zero => exact ⟨-1, Or.inl ⟨rfl, fun d d1 d2 => by omega⟩⟩
    | succ n ih =>
      obtain ⟨r, hr⟩ := ih
      rcases hr with ⟨e, h1⟩ | ⟨r1, r2, r3, r4⟩
      · by_cases c : R (n : Int) = v ∧ (a = -1 ∨ K a (n : Int))
        · exact ⟨n, Or.inr ⟨by omega, by omega, c, fun d d1 d2 => h1 d d1 d2⟩⟩
        · refine ⟨-1, Or.inl ⟨rfl, fun d d1 d2 => ?_⟩⟩
          by_cases e2 : d = (n : Int)
          · rw [e2]; exact c
          · exact h1 d d1 (by omega)
      · exact ⟨r, Or.inr ⟨r1, by omega, r3, r4⟩⟩
  have := key D.toNat
  rwa [show ((D.toNat : Nat) : Int) = D by omega] at this
noncomputable def nxt (D : Int) (K : Int → Int → Prop) (R : Int → Int) (a v : Int) : Int := if h : 0 ≤ D then Classical.choose (LF_ex D K R a v h) else -1
theorem nxt_LF {D : Int} (K : Int → Int → Prop) (R : Int → Int) (a v : Int) (hD : 0 ≤ D) : LF D K R a v (nxt D K R a v) := by
  unfold nxt
  rw [dif_pos hD]
  exact Classical.choose_spec (LF_ex D K R a v hD)
theorem nxt_rg {D : Int} (K : Int → Int → Prop) (R : Int → Int) (a v : Int) (hD : 0 ≤ D) : -1 ≤ nxt D K R a v ∧ nxt D K R a v < D := by
  rcases nxt_LF K R a v hD with ⟨e, -⟩ | ⟨r1, r2, -⟩ <;> omega
theorem c_leastFrom (h : RR ρ) {a v : Int} (ha : -1 ≤ a ∧ a < ρ 51 5) (hv : SM v) : G 20 0 [some (.ref 2), some (vI a), some (vI v)] [] (toM ρ τ) Q = Q (some (vI (nxt (ρ 51 5) (cnM ρ) (ρ 31) a v))) (toM ρ τ) := by
  have hT := h.1
  obtain ⟨n1, n2, n3⟩ := h.dn
  have hL := nxt_LF (cnM ρ) (ρ 31) a v n2
  rw [s20 ρ τ a v hT (by omega) hv]
  have key := upw (P := fun d => 0 ≤ d → (∀ x, 0 ≤ x → x < d → ¬ (ρ 31 x = v ∧ (a = -1 ∨ cnM ρ a x))) → ∀ t, G 20 2 (some (.ref 2) :: some (vI a) :: some (vI v) :: some (vI d) :: t) [] (toM ρ τ) Q = Q (some (vI (nxt (ρ 51 5) (cnM ρ) (ρ 31) a v))) (toM ρ τ)) (n := ρ 51 5) ?_ ?_ (ρ 51 5).toNat
  · rw [show ρ 51 5 - (((ρ 51 5).toNat : Nat) : Int) = 0 by omega] at key
    exact key (by omega) (fun x x1 x2 => by omega) []
  · intro d d1 IH d2 hx t
    rw [s20_2 ρ τ a v d t hT (by omega) hv ⟨by omega, by omega⟩, if_neg (by omega)]
    have yes : ρ 31 d = v ∧ (a = -1 ∨ cnM ρ a d) → d = nxt (ρ 51 5) (cnM ρ) (ρ 31) a v := fun c => LF_u (Or.inr ⟨d2, d1, c, hx⟩) hL
    have no : ¬ (ρ 31 d = v ∧ (a = -1 ∨ cnM ρ a d)) → ∀ t, G 20 2 (some (.ref 2) :: some (vI a) :: some (vI v) :: some (vI (d + 1)) :: t) [] (toM ρ τ) Q = Q (some (vI (nxt (ρ 51 5) (cnM ρ) (ρ 31) a v))) (toM ρ τ) := fun c t => IH (by omega) (fun x x1 x2 => by
      by_cases e : x = d
      · rw [e]; exact c
      · exact hx x x1 (by omega)) t
    split
    · rename_i c1
      split
      · rename_i c2
        have kk := cn_eq h (i := a) (j := d) (by omega) (by omega)
        split
        · rename_i c3
          rw [← yes ⟨c1, Or.inr (kk.mp c3)⟩]
        · rename_i c3
          exact no (fun z => z.2.elim (fun q => by omega) (fun q => c3 (kk.mpr q))) t
      · rename_i c2
        rw [← yes ⟨c1, Or.inl (by omega)⟩]
    · rename_i c1
      exact no (fun z => c1 z.1) t
  · intro d2 hx t
    rw [s20_2 ρ τ a v _ t hT (by omega) hv ⟨by omega, by omega⟩, if_pos (by omega), LF_u (Or.inl ⟨rfl, hx⟩) hL]
def nxF (D : Int) (N : Int → Int → Int) (L k a : Int) : Int := N a (L - k)
theorem c_inRow (h : RR ρ) {i : Int} (hi : SB i) (h0 : 0 ≤ i) : G 19 0 [some (.ref 2), some (vI i)] [] (toM ρ τ) Q = Q (some (vI (if i < lg (ρ 31) (ρ 51 5) then fo (nxF (ρ 51 5) (nxt (ρ 51 5) (cnM ρ) (ρ 31)) (lg (ρ 31) (ρ 51 5))) 0 (i + 1).toNat (-1) else -1))) (toM ρ τ) := by
  have hT := h.1
  obtain ⟨n1, n2, n3⟩ := h.dn
  have hb := lg_bd (R := ρ 31) (D := ρ 51 5) n2 (fun d _ _ => hT.2 31 d)
  rw [s19 ρ τ i hT hi, c_longest hT, n1, s19_4 ρ τ i [] _ hT hi ⟨by omega, by omega⟩]
  split
  · rename_i c
    refine lp (S := Int) (P := fun k a t => G 19 17 (some (.ref 2) :: some (vI i) :: some (vI (lg (ρ 31) (ρ 51 5))) :: some (vI a) :: some (vI k) :: t) [] (toM ρ τ) Q) (inv := fun k a => 0 ≤ k ∧ -1 ≤ a ∧ a < ρ 51 5) (n := i + 1) (f := nxF (ρ 51 5) (nxt (ρ 51 5) (cnM ρ) (ρ 31)) (lg (ρ 31) (ρ 51 5))) ?_ (fun k a z1 z2 => ⟨by omega, nxt_rg _ _ _ _ n2⟩) (i + 1).toNat 0 (-1) _ (by omega) (by omega) ?_
    · rintro k a t k1 ⟨k2, k3, k4⟩ H
      have rg := nxt_rg (cnM ρ) (ρ 31) a (lg (ρ 31) (ρ 51 5) - k) n2
      show G 19 17 (some (.ref 2) :: some (vI i) :: some (vI (lg (ρ 31) (ρ 51 5))) :: some (vI a) :: some (vI k) :: t) [] (toM ρ τ) Q = _
      rw [s19_17 ρ τ i _ a k t hT (by omega) ⟨by omega, by omega⟩ (by omega) ⟨by omega, by omega⟩, if_neg (by omega), c_leastFrom h ⟨k3, k4⟩ ⟨by omega, by omega⟩, s19_32 ρ τ i _ a k t _ hT hi ⟨by omega, by omega⟩ ⟨by omega, by omega⟩ ⟨by omega, by omega⟩ ⟨by omega, by omega⟩]
      exact H _ _ rfl
    · rintro ⟨-, k3, k4⟩ t'
      show G 19 17 (some (.ref 2) :: some (vI i) :: some (vI (lg (ρ 31) (ρ 51 5))) :: some (vI (fo (nxF (ρ 51 5) (nxt (ρ 51 5) (cnM ρ) (ρ 31)) (lg (ρ 31) (ρ 51 5))) 0 (i + 1).toNat (-1))) :: some (vI (i + 1)) :: t') [] (toM ρ τ) Q = _
      rw [s19_17 ρ τ i _ _ _ t' hT (by omega) ⟨by omega, by omega⟩ (by omega) ⟨by omega, by omega⟩, if_pos (by omega)]
  · rfl
end MO
