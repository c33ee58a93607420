/-! trade -/
def tdV (sh : Int → Int) (a b : Int) : Int := sh (5 * b + 4) - sh (5 * a + 3)
def tdL (O sh dm : Int → Int) (a fi b : Int) : Int := opF O sh b (fi + dm (10 * sh (5 * a) + sh (5 * b)))
def tdF (O sh dm : Int → Int) (t a fi b : Int) (s : Int × Int × Int × Int) : Int × Int × Int × Int :=
  if s.1 < tdV sh a b ∧ tdL O sh dm a fi b - t ≤ 2880 then (tdV sh a b, a, b, tdL O sh dm a fi b) else s
def tdI (i : Int) (s : Int × Int × Int × Int) : Prop := 0 ≤ i ∧ i ≤ 6 ∧ (s.1 = 0 ∧ s.2.1 = -1 ∧ s.2.2.1 = -1 ∧ s.2.2.2 = -1 ∨ (0 < s.1 ∧ s.1 ≤ 99) ∧ (0 ≤ s.2.1 ∧ s.2.1 ≤ 5) ∧ (0 ≤ s.2.2.1 ∧ s.2.2.1 ≤ 5) ∧ 0 ≤ s.2.2.2 ∧ s.2.2.2 ≤ 20000)
def tdO (ρ : rm) (h t a : Int) : Int := opF (oS ρ) (ρ 56) a (t + ρ 57 (10 * h + ρ 56 (5 * a)))
def tdG (ρ : rm) (h t a : Int) (s : Int × Int × Int × Int) : Int × Int × Int × Int := fo (tdF (oS ρ) (ρ 56) (ρ 57) t a (tdO ρ h t a)) 0 (ρ 51 7).toNat s
def tdA (ρ : rm) (h t : Int) : Int × Int × Int × Int := fo (tdG ρ h t) 0 (ρ 51 7).toNat (0, -1, -1, -1)
section TD
variable {ρ : rm} {τ : Int64} {Q : Option Value → mm → Prop}
theorem RR.sp (h : RR ρ) {i : Int} (h1 : 0 ≤ i ∧ i < ρ 51 7) : ρ 32 i = ρ 56 (5 * i) ∧ ρ 33 i = ρ 56 (5 * i + 1) ∧ ρ 34 i = ρ 56 (5 * i + 2) ∧ ρ 35 i = ρ 56 (5 * i + 3) ∧ ρ 36 i = ρ 56 (5 * i + 4) ∧ 0 ≤ ρ 56 (5 * i) ∧ ρ 56 (5 * i) < ρ 51 0 ∧ 0 ≤ ρ 56 (5 * i + 3) ∧ ρ 56 (5 * i + 4) ≤ 99 := by
  have h2 := h.S.2 i h1.1 h1.2
  have h3 := T56a h.1 i
  have h4 : 0 ≤ ρ 35 i ∧ ρ 35 i ≤ 99 := h.1.2 35 i
  have h5 : 0 ≤ ρ 36 i ∧ ρ 36 i ≤ 99 := h.1.2 36 i
  omega
theorem RR.sn (h : RR ρ) : ρ 3 0 = ρ 51 7 ∧ 0 ≤ ρ 51 7 ∧ ρ 51 7 ≤ 6 := ⟨h.S.1, h.1.2 51 7⟩
theorem sv_op (h : RR ρ) {s l t : Int} (hs : 0 ≤ s ∧ s < ρ 51 7) (hl : 0 ≤ l ∧ l < ρ 51 0) : svC ρ s l t = opF (oS ρ) (ρ 56) s (t + ρ 57 (10 * l + ρ 56 (5 * s))) := by
  have e1 := h.sp hs
  have e2 := h.off (a := ρ 56 (5 * s)) (by omega) (by omega)
  have e3 := h.gr (a := l) (b := ρ 56 (5 * s)) hl (by omega)
  unfold svC opF
  rw [e1.1, e1.2.1, e1.2.2.1, e2, e3]
theorem td_keep (h : RR ρ) {t a fi : Int} (ht : 0 ≤ t ∧ t ≤ 9999) (ha : 0 ≤ a ∧ a < ρ 51 7) (hf : t ≤ fi) : ∀ i s, i < ρ 51 7 → tdI i s → tdI (i + 1) (tdF (oS ρ) (ρ 56) (ρ 57) t a fi i s) := by
  rintro i ⟨g, x, y, z⟩ h1 ⟨h2, h3, h4⟩
  have n1 := h.sn
  have e1 := h.sp ha
  have e2 := h.sp (i := i) ⟨h2, h1⟩
  have e3 := opF_bd (oS ρ) (ρ 56) i (fi + ρ 57 (10 * ρ 56 (5 * a) + ρ 56 (5 * i)))
  have e4 : 0 ≤ ρ 57 (10 * ρ 56 (5 * a) + ρ 56 (5 * i)) := (h.1.2 57 _).1
  refine ⟨by omega, by omega, ?_⟩
  unfold tdF tdV tdL
  dsimp only at h4 ⊢
  split
  · refine Or.inr ?_
    dsimp only
    omega
  · exact h4
theorem tdO_bd (h : RR ρ) {x t a : Int} (hx : 0 ≤ x ∧ x < ρ 51 0) (ha : 0 ≤ a ∧ a < ρ 51 7) : t ≤ tdO ρ x t a ∧ tdO ρ x t a ≤ t + 3000 := by
  have e1 := h.sp ha
  have e2 := h.d8 (a := x) (b := ρ 56 (5 * a)) hx (by omega)
  have e3 := opF_bd (oS ρ) (ρ 56) a (t + ρ 57 (10 * x + ρ 56 (5 * a)))
  have e4 : 0 ≤ ρ 57 (10 * x + ρ 56 (5 * a)) := (h.1.2 57 _).1
  unfold tdO
  omega
theorem td_out (h : RR ρ) {x t : Int} (hx : 0 ≤ x ∧ x < ρ 51 0) (ht : 0 ≤ t ∧ t ≤ 9999) : ∀ i s, i < ρ 51 7 → tdI i s → tdI (i + 1) (tdG ρ x t i s) := by
  intro i s h1 h2
  have n1 := h.sn
  have b1 := tdO_bd h (t := t) (a := i) hx ⟨h2.1, h1⟩
  have := fo_inv (td_keep h ht (a := i) ⟨h2.1, h1⟩ b1.1) (ρ 51 7).toNat 0 s (by omega) ⟨by omega, by omega, h2.2.2⟩
  exact ⟨by have := h2.1; omega, by omega, this.2.2⟩
def tdM (ρ ρ' : rm) (s : Int × Int × Int × Int) : Prop := TI ρ' ∧ Same ρ ρ' ∧ ρ' 3 1 = s.1 ∧ (0 < s.1 → ρ' 3 2 = s.2.1 ∧ ρ' 3 3 = s.2.2.1 ∧ ρ' 3 4 = s.2.2.2)
theorem oS_same {ρ ρ' : rm} (h : Same ρ ρ') : oS ρ' = oS ρ := by
  have u : ρ' 52 = ρ 52 := h.fn (fun j => by unfold scr; omega)
  funext x
  unfold oS
  rw [u]
theorem c_seek (h : RR ρ) {x a : Int} (hx : 0 ≤ x ∧ x < ρ 51 0) (ha : 0 ≤ a ∧ a ≤ 9999) (hQ : ∀ ρ', tdM ρ ρ' (tdA ρ x a) → Q none (toM ρ' τ)) : G 61 0 [some (.ref 3), some (vI x), some (vI a)] [] (toM ρ τ) Q := by
  have hT := h.1
  have hn := h.nb
  obtain ⟨n1, n2, n3⟩ := h.sn
  rw [s61 ρ τ x a hT (by omega) ha]
  refine lpI (P := fun i s => ∀ ρ' t, tdM ρ ρ' s → G 61 7 (some (.ref 3) :: some (vI x) :: some (vI a) :: some (vI i) :: t) [] (toM ρ' τ) Q) (inv := tdI) (n := ρ 51 7) (f := tdG ρ x a) ?_ (td_out h hx ha) (ρ 51 7).toNat 0 (0, -1, -1, -1) (by omega) ⟨by omega, by omega, Or.inl ⟨rfl, rfl, rfl, rfl⟩⟩ ?_ _ _ ?_
  · intro i s h1 h2 H ρ' t hM
    have hR := RR_same h hM.1 hM.2.1
    have hS := hM.2.1
    have u0 : ρ' 3 0 = ρ 51 7 := (hS 3 0 (by unfold scr; omega)).trans n1
    have u1 : ρ' 51 7 = ρ 51 7 := hS 51 7 (by unfold scr; omega)
    have u2 : ρ' 51 0 = ρ 51 0 := hS 51 0 (by unfold scr; omega)
    have u6 : ρ' 56 = ρ 56 := hS.fn (fun j => by unfold scr; omega)
    have u7 : ρ' 57 = ρ 57 := hS.fn (fun j => by unfold scr; omega)
    have b1 := tdO_bd h (t := a) (a := i) hx ⟨h2.1, h1⟩
    rw [s61_7 ρ' τ x a i t hM.1 (by omega) ha ⟨h2.1, h2.2.1⟩, if_neg (by omega), sv_op hR (s := i) (l := x) ⟨h2.1, by omega⟩ (by omega), oS_same hS, u6, u7]
    refine lpI (P := fun j s => ∀ ρ' t, tdM ρ ρ' s → G 61 27 (some (.ref 3) :: some (vI x) :: some (vI a) :: some (vI i) :: some (vI (tdO ρ x a i)) :: some (vI j) :: t) [] (toM ρ' τ) Q) (inv := tdI) (n := ρ 51 7) (f := tdF (oS ρ) (ρ 56) (ρ 57) a i (tdO ρ x a i)) ?_ (td_keep h ha ⟨h2.1, h1⟩ b1.1) (ρ 51 7).toNat 0 s (by omega) ⟨by omega, by omega, h2.2.2⟩ ?_ _ _ hM
    · rintro j ⟨g, y, z, w⟩ h3 h4 H2 ρ2 t2 hM2
      have hR2 := RR_same h hM2.1 hM2.2.1
      obtain ⟨hT2, hS2, m1, m2⟩ := hM2
      obtain ⟨k1, k2, k3⟩ := h4
      dsimp only at m1 m2 k3
      have v0 : ρ2 3 0 = ρ 51 7 := (hS2 3 0 (by unfold scr; omega)).trans n1
      have v1 : ρ2 51 7 = ρ 51 7 := hS2 51 7 (by unfold scr; omega)
      have v2 : ρ2 51 0 = ρ 51 0 := hS2 51 0 (by unfold scr; omega)
      have v6 : ρ2 56 = ρ 56 := hS2.fn (fun j => by unfold scr; omega)
      have v7 : ρ2 57 = ρ 57 := hS2.fn (fun j => by unfold scr; omega)
      have e1 := hR2.sp (i := i) ⟨h2.1, by omega⟩
      have e2 := hR2.sp (i := j) ⟨k1, by omega⟩
      rw [v6] at e1 e2
      have e3 := opF_bd (oS ρ) (ρ 56) j (tdO ρ x a i + ρ 57 (10 * ρ 56 (5 * i) + ρ 56 (5 * j)))
      have e4 := h.d8 (a := ρ 56 (5 * i)) (b := ρ 56 (5 * j)) (by omega) (by omega)
      have e5 : 0 ≤ ρ 57 (10 * ρ 56 (5 * i) + ρ 56 (5 * j)) := (h.1.2 57 _).1
      rw [s61_27 ρ2 τ x a i (tdO ρ x a i) j t2 hT2 (by omega) ha ⟨h2.1, by omega⟩ ⟨by omega, by omega⟩ ⟨by omega, by omega⟩, if_neg (by omega), e1.1, sv_op hR2 (s := j) (l := ρ 56 (5 * i)) ⟨k1, by omega⟩ (by omega), oS_same hS2, v6, v7, e1.2.2.2.1, e2.2.2.2.2.1, m1]
      have H3 : ∀ ρ3 t3 s3, s3 = tdF (oS ρ) (ρ 56) (ρ 57) a i (tdO ρ x a i) j (g, y, z, w) → tdM ρ ρ3 s3 → G 61 27 (some (.ref 3) :: some (vI x) :: some (vI a) :: some (vI i) :: some (vI (tdO ρ x a i)) :: some (vI (j + 1)) :: t3) [] (toM ρ3 τ) Q := fun ρ3 t3 s3 q1 q2 => H2 ρ3 t3 (by rw [← q1]; exact q2)
      unfold tdF tdV tdL at H3
      dsimp only at H3
      by_cases hc : g < ρ 56 (5 * j + 4) - ρ 56 (5 * i + 3) ∧ opF (oS ρ) (ρ 56) j (tdO ρ x a i + ρ 57 (10 * ρ 56 (5 * i) + ρ 56 (5 * j))) - a ≤ 2880
      · rw [if_neg (by omega), if_neg (by omega)]
        rw [if_pos hc] at H3
        refine H3 _ _ _ rfl ?_
        have hva : ρ 56 (5 * j + 4) - ρ 56 (5 * i + 3) ≤ 99 := by omega
        have hi0 := h2.1
        generalize opF (oS ρ) (ρ 56) j (tdO ρ x a i + ρ 57 (10 * ρ 56 (5 * i) + ρ 56 (5 * j))) = la at *
        generalize ρ 56 (5 * j + 4) - ρ 56 (5 * i + 3) = va at *
        refine ⟨TI_up (TI_up (TI_up (TI_up hT2 3 1 (x := va) (show 0 ≤ va ∧ va ≤ 99 by omega) (by omega)) 3 2 (x := i) (show 0 ≤ i ∧ i ≤ 5 by have := h2.1; omega) (by omega)) 3 3 (x := j) (show 0 ≤ j ∧ j ≤ 5 by omega) (by omega)) 3 4 (x := la) (show 0 ≤ la ∧ la ≤ 200000 by omega) (by omega), (((hS2.up _ (by unfold scr; omega)).up _ (by unfold scr; omega)).up _ (by unfold scr; omega)).up _ (by unfold scr; omega), ?_, fun _ => ⟨?_, ?_, ?_⟩⟩ <;> simp [rup]
      · rw [if_neg hc] at H3
        split
        · exact H3 _ _ _ rfl ⟨hT2, hS2, m1, m2⟩
        · rw [if_pos (by omega)]
          exact H3 _ _ _ rfl ⟨hT2, hS2, m1, m2⟩
    · intro h3 ρ2 t2 hM2
      have v0 : ρ2 3 0 = ρ 51 7 := (hM2.2.1 3 0 (by unfold scr; omega)).trans n1
      rw [s61_27 ρ2 τ x a i (tdO ρ x a i) _ t2 hM2.1 (by omega) ha ⟨h2.1, by omega⟩ ⟨by omega, by omega⟩ ⟨by omega, by omega⟩, if_pos (by omega)]
      exact H ρ2 _ hM2
  · intro h2 ρ' t hM
    have u0 : ρ' 3 0 = ρ 51 7 := (hM.2.1 3 0 (by unfold scr; omega)).trans n1
    rw [s61_7 ρ' τ x a _ t hM.1 (by omega) ha ⟨by omega, by omega⟩, if_pos (by omega)]
    exact hQ ρ' hM
  · exact ⟨TI_up hT 3 1 (x := 0) (show (0 : Int) ≤ 0 ∧ (0 : Int) ≤ 99 by omega) (by omega), (Same.refl ρ).up _ (by unfold scr; omega), rup_same _ _ _ _, fun z => absurd z (by decide)⟩
theorem m_trade (h : RR ρ) {x a w : Int} (hx : 0 ≤ x ∧ x < ρ 51 0) (ha : 0 ≤ a ∧ a ≤ 9999) (hw : 0 ≤ w ∧ w ≤ 3) {s : Int × Int × Int × Int} (hs : s = tdA ρ x a) :
    G 164 0 [some (.ref 51), some (vI x), some (vI a), some (vI w)] [] (toM ρ τ) Q = Q (some (vI (if s.1 = 0 then -1 else if w = 0 then s.1 else if w = 1 then s.2.1 else if w = 2 then s.2.2.1 else s.2.2.2))) (toM ρ τ) := by
  have hT := h.1
  have hn := h.nb
  obtain ⟨n1, n2, n3⟩ := h.sn
  generalize hX : Q (some (vI (if s.1 = 0 then -1 else if w = 0 then s.1 else if w = 1 then s.2.1 else if w = 2 then s.2.2.1 else s.2.2.2))) (toM ρ τ) = X
  rw [s164 ρ τ x a w hT ⟨by omega, by omega⟩ ⟨by omega, by omega⟩ ⟨by omega, by omega⟩, if_pos (by omega), if_pos (by omega), if_pos (by omega)]
  refine lp (P := fun i (s : Int × Int × Int × Int) t => G 164 49 (some (.ref 51) :: some (vI x) :: some (vI a) :: some (vI w) :: some (vI s.1) :: some (vI s.2.1) :: some (vI s.2.2.1) :: some (vI s.2.2.2) :: some (vI i) :: t) [] (toM ρ τ) Q) (inv := tdI) (n := ρ 51 7) (f := tdG ρ x a) ?_ (td_out h hx ha) (ρ 51 7).toNat 0 (0, -1, -1, -1) [] (by omega) ⟨by omega, by omega, Or.inl ⟨rfl, rfl, rfl, rfl⟩⟩ ?_
  · rintro i ⟨g, y, z, v⟩ t h1 h2 H
    have h2' := h2
    obtain ⟨k1, k2, k3⟩ := h2'
    dsimp only at k3
    have b1 := tdO_bd h (t := a) (a := i) hx ⟨h2.1, h1⟩
    show G 164 49 (some (.ref 51) :: some (vI x) :: some (vI a) :: some (vI w) :: some (vI g) :: some (vI y) :: some (vI z) :: some (vI v) :: some (vI i) :: t) [] (toM ρ τ) Q = _
    rw [s164_49 ρ τ x a w g y z v i t hT (by omega) ha ⟨by omega, by omega⟩ ⟨by omega, by omega⟩ ⟨by omega, by omega⟩ ⟨by omega, by omega⟩ ⟨by omega, by omega⟩ ⟨by omega, by omega⟩, if_neg (by omega)]
    refine lp (P := fun j (s : Int × Int × Int × Int) t => G 164 90 (some (.ref 51) :: some (vI x) :: some (vI a) :: some (vI w) :: some (vI s.1) :: some (vI s.2.1) :: some (vI s.2.2.1) :: some (vI s.2.2.2) :: some (vI i) :: some (vI (tdO ρ x a i)) :: some (vI j) :: t) [] (toM ρ τ) Q) (inv := tdI) (n := ρ 51 7) (f := tdF (oS ρ) (ρ 56) (ρ 57) a i (tdO ρ x a i)) ?_ (td_keep h ha ⟨h2.1, h1⟩ b1.1) (ρ 51 7).toNat 0 (g, y, z, v) _ (by omega) ⟨by omega, by omega, h2.2.2⟩ ?_
    · rintro j ⟨g, y, z, v⟩ t h3 ⟨l1, l2, l3⟩ H2
      dsimp only at l3
      show G 164 90 (some (.ref 51) :: some (vI x) :: some (vI a) :: some (vI w) :: some (vI g) :: some (vI y) :: some (vI z) :: some (vI v) :: some (vI i) :: some (vI (tdO ρ x a i)) :: some (vI j) :: t) [] (toM ρ τ) Q = _
      rw [s164_90 ρ τ x a w g y z v i (tdO ρ x a i) j t hT (by omega) ha ⟨by omega, by omega⟩ ⟨by omega, by omega⟩ ⟨by omega, by omega⟩ ⟨by omega, by omega⟩ ⟨by omega, by omega⟩ ⟨by omega, by omega⟩ ⟨by omega, by omega⟩ ⟨by omega, by omega⟩, if_neg (by omega)]
      unfold tdF tdV tdL at H2
      dsimp only at H2
      by_cases hc : g < ρ 56 (5 * j + 4) - ρ 56 (5 * i + 3) ∧ opF (oS ρ) (ρ 56) j (tdO ρ x a i + ρ 57 (10 * ρ 56 (5 * i) + ρ 56 (5 * j))) - a ≤ 2880
      · rw [if_pos hc] at H2
        rw [if_neg (by omega), if_neg (by omega)]
        exact H2 (_, _, _, _) _ rfl
      · rw [if_neg hc] at H2
        split
        · exact H2 (_, _, _, _) _ rfl
        · rw [if_pos (by omega)]
          exact H2 (_, _, _, _) _ rfl
    · rintro h3 t'
      generalize hs2 : fo (tdF (oS ρ) (ρ 56) (ρ 57) a i (tdO ρ x a i)) 0 (ρ 51 7).toNat (g, y, z, v) = s2 at h3 ⊢
      obtain ⟨g2, y2, z2, v2⟩ := s2
      obtain ⟨l1, l2, l3⟩ := h3
      dsimp only at l3
      show G 164 90 (some (.ref 51) :: some (vI x) :: some (vI a) :: some (vI w) :: some (vI g2) :: some (vI y2) :: some (vI z2) :: some (vI v2) :: some (vI i) :: some (vI (tdO ρ x a i)) :: some (vI (ρ 51 7)) :: t') [] (toM ρ τ) Q = _
      rw [s164_90 ρ τ x a w g2 y2 z2 v2 i (tdO ρ x a i) _ t' hT (by omega) ha ⟨by omega, by omega⟩ ⟨by omega, by omega⟩ ⟨by omega, by omega⟩ ⟨by omega, by omega⟩ ⟨by omega, by omega⟩ ⟨by omega, by omega⟩ ⟨by omega, by omega⟩ ⟨by omega, by omega⟩, if_pos (by omega)]
      exact H (g2, y2, z2, v2) _ hs2.symm
  · intro h2 t'
    have h2' : tdI (ρ 51 7) s := by rw [hs]; exact h2
    have e : fo (tdG ρ x a) 0 (ρ 51 7).toNat (0, -1, -1, -1) = s := hs.symm
    rw [e]
    obtain ⟨g2, y2, z2, v2⟩ := s
    obtain ⟨l1, l2, l3⟩ := h2'
    dsimp only at l3 hX
    show G 164 49 (some (.ref 51) :: some (vI x) :: some (vI a) :: some (vI w) :: some (vI g2) :: some (vI y2) :: some (vI z2) :: some (vI v2) :: some (vI (ρ 51 7)) :: t') [] (toM ρ τ) Q = _
    rw [s164_49 ρ τ x a w g2 y2 z2 v2 _ t' hT (by omega) ha ⟨by omega, by omega⟩ ⟨by omega, by omega⟩ ⟨by omega, by omega⟩ ⟨by omega, by omega⟩ ⟨by omega, by omega⟩ ⟨by omega, by omega⟩, if_pos (by omega), ← hX]
    (repeat' split) <;> first | rfl | (exfalso; omega)
end TD
theorem ag_trade (x a w : Int) (hx : SB x) (ha : SB a) (hw : SB w) : Agree 102 164 [some (vI x), some (vI a), some (vI w)] := by
  intro ρ τ h
  have hT := h.1
  have hn := h.nb
  have n1 := h.n
  rw [b102_0 ρ τ x a w hT.1 hx ha hw, c_has hT.1 hx, b102_8 ρ τ x a w [] _ hT.1 hx ha hw (tv_sm _)]
  by_cases h0 : 0 ≤ x ∧ x < ρ 51 0
  · rw [if_neg (by rw [tv_0]; omega)]
    by_cases h1 : (0 ≤ a ∧ a ≤ 9999) ∧ 0 ≤ w ∧ w ≤ 3
    · rw [if_neg (by omega), if_neg (by omega), if_neg (by omega), if_pos (by omega)]
      refine c_seek h h0 h1.1 (fun ρ' hM => ?_)
      generalize hs : tdA ρ x a = s at hM
      have hI : tdI (ρ 51 7) s := by
        rw [← hs]
        have := h.sn
        exact fo_inv (td_out h h0 h1.1) (ρ 51 7).toNat 0 (0, -1, -1, -1) (by omega) ⟨by omega, by omega, Or.inl ⟨rfl, rfl, rfl, rfl⟩⟩
      obtain ⟨hT', hS, m1, m2⟩ := hM
      have hR := RR_same h hT' hS
      have u1 : ρ' 51 7 = ρ 51 7 := hS 51 7 (by unfold scr; omega)
      have u2 : ρ' 51 0 = ρ 51 0 := hS 51 0 (by unfold scr; omega)
      have u3 : ρ' 56 = ρ 56 := hS.fn (fun j => by unfold scr; omega)
      have u4 : ρ' 57 = ρ 57 := hS.fn (fun j => by unfold scr; omega)
      have u5 := oS_same hS
      have hs' : s = tdA ρ' x a := by
        rw [← hs]
        unfold tdA tdG tdO
        rw [u1, u3, u4, u5]
      obtain ⟨-, -, l3⟩ := hI
      rw [b102_46 ρ' τ x a w [] hT'.1 hx ha hw, m1]
      by_cases hz : s.1 = 0
      · rw [if_pos hz]
        refine ⟨_, by decide, rfl, ?_⟩
        rw [m_trade hR (by omega) h1.1 h1.2 hs', if_pos hz]
        exact ag_end rfl hR
      · obtain ⟨m3, m4, m5⟩ := m2 (by omega)
        rw [if_neg hz, m3, m4, m5]
        (repeat' split) <;> (refine ⟨_, ⟨by omega, by omega⟩, rfl, ?_⟩; rw [m_trade hR (by omega) h1.1 h1.2 hs', if_neg hz]; refine ag_end ?_ hR; (repeat' split) <;> first | rfl | (exfalso; omega))
    · have e : ∀ Q, G 164 0 [some (.ref 51), some (vI x), some (vI a), some (vI w)] [] (toM ρ τ) Q = Q (some (vI (-3))) (toM ρ τ) := fun Q => by
        rw [s164 ρ τ x a w hT hx ha hw]
        (repeat' split) <;> first | rfl | (exfalso; omega)
      (repeat' split) <;> first | (exfalso; omega) | (refine ⟨_, by decide, rfl, ?_⟩; rw [e]; exact ag_end rfl h)
  · rw [if_pos (by rw [tv_0]; omega)]
    refine ⟨_, by decide, rfl, ?_⟩
    rw [s164 ρ τ x a w hT hx ha hw, if_neg (by omega)]
    exact ag_end rfl h
