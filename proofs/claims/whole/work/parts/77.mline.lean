/-! the reference reads a line -/
section ML
variable {τ : Int64} {Q : Option Value → mm → Prop}
theorem ms_0 {l k h w d s x : Int} {ρ ρ1 : rm} (hl : 0 ≤ l ∧ l < 10) (hst : ρ 51 19 = h ∧ ρ 51 20 = w ∧ ρ 51 21 = d ∧ ρ 51 22 = s) (t1 : TI ρ1) (t2 : K51 ρ ρ1) (hp : 0 ≤ ρ1 51 12 ∧ ρ1 51 12 ≤ ρ 51 10) (hx : x = k - 1) (hk : 0 ≤ k ∧ k ≤ 7) : MS (ρ 58) (ρ 51 10) l k h w d s ρ 0 (fun _ => 0) (rup ρ1 59 (6 * l) x) := by
  refine ⟨TI_up t1 59 _ (x := x) (show -1 ≤ x ∧ x ≤ 9999 by omega) (by omega), (KM.of t2).up59 _ (by omega), ⟨?_, ?_⟩, ?_, fun j j1 j2 => by omega, fun j j1 j2 => by omega, ?_, ?_, ?_, ?_, ?_⟩
  · rw [rup_fn (by decide)]; exact t2.fn (by decide)
  · rw [rup_ne _ _ _ _ (by decide)]; exact t2 51 10 (by omega)
  · rw [rup_ne _ _ _ _ (by decide)]; exact hp
  · rw [rup_same, hx]
  · rw [rup_ne _ _ _ _ (by decide), t2 51 19 (by omega)]; exact hst.1
  · rw [rup_ne _ _ _ _ (by decide), t2 51 20 (by omega)]; exact hst.2.1
  · rw [rup_ne _ _ _ _ (by decide), t2 51 21 (by omega)]; exact hst.2.2.1
  · rw [rup_ne _ _ _ _ (by decide), t2 51 22 (by omega)]; exact hst.2.2.2
theorem ms_w {T : Int → Int} {n l k h w d s i x : Int} {ρ0 ρ : rm} {N : Int → Int} (hM : MS T n l k h w d s ρ0 i N ρ) (hx : 0 ≤ x ∧ x ≤ 8) : MS T n l k h x d s ρ0 i N (rup ρ 51 20 x) := by
  obtain ⟨m1, m2, m3, m4, m5, m6, m7, m8, m9, m10, m11⟩ := hM
  refine ⟨TI_up m1 51 20 (x := x) (show 0 ≤ x ∧ x ≤ 8 by omega) (by omega), m2.up _ (by omega), ⟨?_, ?_⟩, ?_, fun j j1 j2 => ?_, m6, ?_, ?_, ?_, ?_, ?_⟩
  · rw [rup_fn (by decide)]; exact m3.1
  · rw [rup51 (by decide)]; exact m3.2
  · rw [rup51 (by decide)]; exact m4
  · rw [rup_ne _ _ _ _ (by decide)]; exact m5 j j1 j2
  · rw [rup_ne _ _ _ _ (by decide)]; exact m7
  · rw [rup51 (by decide)]; exact m8
  · exact rup_same _ _ _ _
  · rw [rup51 (by decide)]; exact m10
  · rw [rup51 (by decide)]; exact m11
theorem ms_d {T : Int → Int} {n l k h w d s i x : Int} {ρ0 ρ : rm} {N : Int → Int} (hM : MS T n l k h w d s ρ0 i N ρ) (hx : 0 ≤ x ∧ x ≤ 10) : MS T n l k h w x s ρ0 i N (rup ρ 51 21 x) := by
  obtain ⟨m1, m2, m3, m4, m5, m6, m7, m8, m9, m10, m11⟩ := hM
  refine ⟨TI_up m1 51 21 (x := x) (show 0 ≤ x ∧ x ≤ 10 by omega) (by omega), m2.up _ (by omega), ⟨?_, ?_⟩, ?_, fun j j1 j2 => ?_, m6, ?_, ?_, ?_, ?_, ?_⟩
  · rw [rup_fn (by decide)]; exact m3.1
  · rw [rup51 (by decide)]; exact m3.2
  · rw [rup51 (by decide)]; exact m4
  · rw [rup_ne _ _ _ _ (by decide)]; exact m5 j j1 j2
  · rw [rup_ne _ _ _ _ (by decide)]; exact m7
  · rw [rup51 (by decide)]; exact m8
  · rw [rup51 (by decide)]; exact m9
  · exact rup_same _ _ _ _
  · rw [rup51 (by decide)]; exact m11
theorem ms_s {T : Int → Int} {n l k h w d s i x : Int} {ρ0 ρ : rm} {N : Int → Int} (hM : MS T n l k h w d s ρ0 i N ρ) (hx : 0 ≤ x ∧ x ≤ 6) : MS T n l k h w d x ρ0 i N (rup ρ 51 22 x) := by
  obtain ⟨m1, m2, m3, m4, m5, m6, m7, m8, m9, m10, m11⟩ := hM
  refine ⟨TI_up m1 51 22 (x := x) (show 0 ≤ x ∧ x ≤ 6 by omega) (by omega), m2.up _ (by omega), ⟨?_, ?_⟩, ?_, fun j j1 j2 => ?_, m6, ?_, ?_, ?_, ?_, ?_⟩
  · rw [rup_fn (by decide)]; exact m3.1
  · rw [rup51 (by decide)]; exact m3.2
  · rw [rup51 (by decide)]; exact m4
  · rw [rup_ne _ _ _ _ (by decide)]; exact m5 j j1 j2
  · rw [rup_ne _ _ _ _ (by decide)]; exact m7
  · rw [rup51 (by decide)]; exact m8
  · rw [rup51 (by decide)]; exact m9
  · rw [rup51 (by decide)]; exact m10
  · exact rup_same _ _ _ _
theorem m_line {ρ : rm} {h w d s l : Int} (hl : 0 ≤ l ∧ l < 10) (hT : TI ρ) (hp : 0 ≤ ρ 51 12 ∧ ρ 51 12 ≤ ρ 51 10) (hst : ρ 51 19 = h ∧ ρ 51 20 = w ∧ ρ 51 21 = d ∧ ρ 51 22 = s)
    (Hf : ∀ f, rdL (ρ 58) (ρ 51 10) h w d s (ρ 51 12) = .inl f → ∀ ρ' τ', TI ρ' → KM l ρ ρ' → ρ' 51 17 = f → Q (some (vI 0)) (toM ρ' τ'))
    (Hs : ∀ k p' N', rdL (ρ 58) (ρ 51 10) h w d s (ρ 51 12) = .inr (k, p', N') → ∀ ρ' τ', FE l k ρ (nh k (N' 0) h) (nw k w) (nd k d) (ns k s) p' N' ρ' → Q (some (vI 1)) (toM ρ' τ')) : G 132 0 [some (.ref 51), some (vI (6 * l))] [] (toM ρ τ) Q := by
  rw [b132_0 ρ τ (6 * l) hT.1 ⟨by omega, by omega⟩]
  refine m_tok _ ρ hT hp rfl (fun ρ1 t1 t2 t3 t4 t5 => ?_)
  have b1 := tkS_bd (T := ρ 58) hp.2
  have b2 := tkE_bd (T := ρ 58) b1.2
  rw [← t3] at b1 b2
  have hn : 0 ≤ ρ 51 10 ∧ ρ 51 10 ≤ 200 := hT.2 51 10
  have rw_ : 0 ≤ w ∧ w ≤ 8 := by rw [← hst.2.1]; exact hT.2 51 20
  have rd_ : 0 ≤ d ∧ d ≤ 10 := by rw [← hst.2.2.1]; exact hT.2 51 21
  have rs_ : 0 ≤ s ∧ s ≤ 6 := by rw [← hst.2.2.2]; exact hT.2 51 22
  have g19 : ρ1 51 19 = h := (t2 51 19 (by omega)).trans hst.1
  have g20 : ρ1 51 20 = w := (t2 51 20 (by omega)).trans hst.2.1
  have g21 : ρ1 51 21 = d := (t2 51 21 (by omega)).trans hst.2.2.1
  have g22 : ρ1 51 22 = s := (t2 51 22 (by omega)).trans hst.2.2.2
  have eL : rdL (ρ 58) (ρ 51 10) h w d s (ρ 51 12) = if kdT (ρ 58) (ρ 51 10) (ρ1 51 13) = 0 ∨ fuL (kdT (ρ 58) (ρ 51 10) (ρ1 51 13)) w d s then .inl (ρ1 51 13) else
      match rdN (ρ 58) (ρ 51 10) (kdT (ρ 58) (ρ 51 10) (ρ1 51 13)) h (nOf (kdT (ρ 58) (ρ 51 10) (ρ1 51 13))).toNat 0 (tkE (ρ 58) (ρ 51 10) (ρ1 51 13)) (fun _ => 0) with
      | .inl f => .inl f
      | .inr (p', N) => .inr (kdT (ρ 58) (ρ 51 10) (ρ1 51 13), p', N) := by rw [t3]; rfl
  have kr := kdT_rg (ρ 58) (ρ 51 10) (ρ1 51 13)
  have w0 := tkT_w0 (T := ρ 58) (n := ρ 51 10) (s := ρ1 51 13)
  have w1 := tkT_w1 (T := ρ 58) (n := ρ 51 10) (s := ρ1 51 13)
  have w2 := tkT_w2 (T := ρ 58) (n := ρ 51 10) (s := ρ1 51 13)
  have w3 := tkT_w3 (T := ρ 58) (n := ρ 51 10) (s := ρ1 51 13)
  have w4 := tkT_w4 (T := ρ 58) (n := ρ 51 10) (s := ρ1 51 13)
  have w5 := tkT_w5 (T := ρ 58) (n := ρ 51 10) (s := ρ1 51 13)
  have w6 := tkT_w6 (T := ρ 58) (n := ρ 51 10) (s := ρ1 51 13)
  generalize kdT (ρ 58) (ρ 51 10) (ρ1 51 13) = k at eL kr w0 w1 w2 w3 w4 w5 w6
  generalize jI (tkT (ρ 58) (ρ 51 10) (ρ1 51 13)) = τ1 at w0 w1 w2 w3 w4 w5 w6 ⊢
  have hp1 : 0 ≤ ρ1 51 12 ∧ ρ1 51 12 ≤ ρ 51 10 := by rw [t4]; omega
  have p59 : ∀ x, rup ρ1 59 (6 * l) x 51 12 = tkE (ρ 58) (ρ 51 10) (ρ1 51 13) := fun x => by rw [rup_ne _ _ _ _ (by decide), t4]
  have n13 : 0 ≤ ρ1 51 13 ∧ ρ1 51 13 ≤ 200 := t1.2 51 13
  have fl : ∀ (x : Int), -1 ≤ x ∧ x ≤ 9 → ∀ (P : Option Value → mm → Prop), (∀ ρ', TI ρ' → KM l ρ ρ' → ρ' 51 17 = ρ1 51 13 → P (some (vI 0)) (toM ρ' τ1)) → G 126 0 [some (.ref 51)] [] (toM (rup ρ1 59 (6 * l) x) τ1) P := fun x hx P hP => by
    have hT2 := TI_up t1 59 (6 * l) (x := x) (show -1 ≤ x ∧ x ≤ 9999 by omega) (by omega)
    have e13 : rup ρ1 59 (6 * l) x 51 13 = ρ1 51 13 := rup_ne _ _ _ _ (by decide)
    rw [b126_0 _ τ1 hT2.1]
    exact hP _ (TI_up hT2 51 17 (x := rup ρ1 59 (6 * l) x 51 13) (show 0 ≤ rup ρ1 59 (6 * l) x 51 13 ∧ rup ρ1 59 (6 * l) x 51 13 ≤ 200 by rw [e13]; exact n13) (by rw [e13]; omega)) (((KM.of t2).up59 _ (by omega)).up _ (by omega)) (by rw [rup_same, e13])
  show G 132 4 (some (.ref 51) :: some (vI (6 * l)) :: []) ((none : Option Value).toList ++ []) (toM ρ1 τ1) Q
  rw [b132_4 ρ1 τ1 (6 * l) [] t1.1 ⟨by omega, by omega⟩]
  by_cases k1 : k = 1
  · rw [if_pos (w0.mpr k1), if_pos (by omega), if_pos (by omega)]
    rw [if_neg (by omega)] at eL
    subst k1
    have M := ms_0 (k := 1) (x := 0) hl hst t1 t2 hp1 rfl (by omega)
    refine m_k1 hl M (fun f e ρ' τ' u1 u2 u3 => ?_) (fun p' N' e ρ' τ' u => ?_)
    · rw [p59] at e
      show G 132 169 (some (.ref 51) :: some (vI (6 * l)) :: []) ((some (vI 0)).toList ++ []) (toM ρ' τ') Q
      rw [b132_169 ρ' τ' (6 * l) [] 0 u1.1 ⟨by omega, by omega⟩ (by decide) (Or.inl rfl)]
      exact Hf f (by rw [eL, show (nOf 1).toNat = 1 from rfl, e]) ρ' τ' u1 u2 u3
    · rw [p59] at e
      show G 132 169 (some (.ref 51) :: some (vI (6 * l)) :: []) ((some (vI 1)).toList ++ []) (toM ρ' τ') Q
      rw [b132_169 ρ' τ' (6 * l) [] 1 u.1.1 ⟨by omega, by omega⟩ (by decide) (Or.inr rfl)]
      exact Hs 1 p' N' (by rw [eL, show (nOf 1).toNat = 1 from rfl, e]) ρ' τ' u
  rw [if_neg (fun z => k1 (w0.mp z))]
  by_cases k2 : k = 2
  · rw [if_pos (w1.mpr k2), if_pos (by omega), if_pos (by omega)]
    rw [if_neg (by omega)] at eL
    subst k2
    have M := ms_0 (k := 2) (x := 1) hl hst t1 t2 hp1 rfl (by omega)
    refine m_k2 hl M (by rw [g19]; rfl) (fun f e ρ' τ' u1 u2 u3 => ?_) (fun p' N' e ρ' τ' u => ?_)
    · rw [p59] at e
      exact Hf f (by rw [eL, show (nOf 2).toNat = 2 from rfl, e]) ρ' τ' u1 u2 u3
    · rw [p59] at e
      exact Hs 2 p' N' (by rw [eL, show (nOf 2).toNat = 2 from rfl, e]) ρ' τ' u
  rw [if_neg (fun z => k2 (w1.mp z))]
  by_cases k3 : k = 3
  · rw [if_pos (w2.mpr k3), if_pos (by omega), if_pos (by omega)]
    rw [if_neg (by omega)] at eL
    subst k3
    have M := ms_0 (k := 3) (x := 2) hl hst t1 t2 hp1 rfl (by omega)
    refine m_k3 hl M (by rw [g19]; rfl) (fun f e ρ' τ' u1 u2 u3 => ?_) (fun p' N' e ρ' τ' u => ?_)
    · rw [p59] at e
      exact Hf f (by rw [eL, show (nOf 3).toNat = 2 from rfl, e]) ρ' τ' u1 u2 u3
    · rw [p59] at e
      exact Hs 3 p' N' (by rw [eL, show (nOf 3).toNat = 2 from rfl, e]) ρ' τ' u
  rw [if_neg (fun z => k3 (w2.mp z))]
  by_cases k4 : k = 4
  · rw [if_pos (w3.mpr k4), if_pos (by omega), if_pos (by omega)]
    subst k4
    have M := ms_0 (k := 4) (x := 3) hl hst t1 t2 hp1 rfl (by omega)
    rw [b129_0 _ τ1 (6 * l) M.1.1 ⟨by omega, by omega⟩]
    have e20 : rup ρ1 59 (6 * l) 3 51 20 = w := M.2.2.2.2.2.2.2.2.1
    have e19 : rup ρ1 59 (6 * l) 3 51 19 = h := M.2.2.2.2.2.2.2.1
    rw [e20, e19]
    by_cases cf : w = 8
    · rw [if_pos cf]
      rw [if_pos (by omega)] at eL
      refine fl 3 (by omega) _ (fun ρ' u1 u2 u3 => ?_)
      show G 129 13 (some (.ref 51) :: some (vI (6 * l)) :: []) ((some (vI 0)).toList ++ []) (toM ρ' τ1) _
      rw [b129_13 ρ' τ1 (6 * l) [] 0 u1.1 ⟨by omega, by omega⟩ (by decide) (Or.inl rfl), b132_248 ρ' τ1 (6 * l) [] 0 u1.1 ⟨by omega, by omega⟩ (by decide) (Or.inl rfl)]
      exact Hf _ eL ρ' τ1 u1 u2 u3
    · rw [if_neg cf]
      rw [if_neg (by omega)] at eL
      have ep : rup (rup ρ1 59 (6 * l) 3) 51 20 (w + 1) 51 12 = tkE (ρ 58) (ρ 51 10) (ρ1 51 13) := by rw [rup51 (by decide), p59]
      refine m_k4 hl (ms_w M (x := w + 1) (by omega)) rfl (fun f e ρ' τ' u1 u2 u3 => ?_) (fun p' N' e ρ' τ' u => ?_)
      · rw [ep] at e
        show G 132 248 (some (.ref 51) :: some (vI (6 * l)) :: []) ((some (vI 0)).toList ++ []) (toM ρ' τ') Q
        rw [b132_248 ρ' τ' (6 * l) [] 0 u1.1 ⟨by omega, by omega⟩ (by decide) (Or.inl rfl)]
        exact Hf f (by rw [eL, show (nOf 4).toNat = 3 from rfl, e]) ρ' τ' u1 u2 u3
      · rw [ep] at e
        show G 132 248 (some (.ref 51) :: some (vI (6 * l)) :: []) ((some (vI 1)).toList ++ []) (toM ρ' τ') Q
        rw [b132_248 ρ' τ' (6 * l) [] 1 u.1.1 ⟨by omega, by omega⟩ (by decide) (Or.inr rfl)]
        exact Hs 4 p' N' (by rw [eL, show (nOf 4).toNat = 3 from rfl, e]) ρ' τ' u
  rw [if_neg (fun z => k4 (w3.mp z))]
  by_cases k5 : k = 5
  · rw [if_pos (w4.mpr k5), if_pos (by omega), if_pos (by omega)]
    subst k5
    have M := ms_0 (k := 5) (x := 4) hl hst t1 t2 hp1 rfl (by omega)
    rw [b130_0 _ τ1 (6 * l) M.1.1 ⟨by omega, by omega⟩]
    have e21 : rup ρ1 59 (6 * l) 4 51 21 = d := M.2.2.2.2.2.2.2.2.2.1
    have e19 : rup ρ1 59 (6 * l) 4 51 19 = h := M.2.2.2.2.2.2.2.1
    rw [e21, e19]
    by_cases cf : d = 10
    · rw [if_pos cf]
      rw [if_pos (by omega)] at eL
      refine fl 4 (by omega) _ (fun ρ' u1 u2 u3 => ?_)
      show G 130 13 (some (.ref 51) :: some (vI (6 * l)) :: []) ((some (vI 0)).toList ++ []) (toM ρ' τ1) _
      rw [b130_13 ρ' τ1 (6 * l) [] 0 u1.1 ⟨by omega, by omega⟩ (by decide) (Or.inl rfl), b132_254 ρ' τ1 (6 * l) [] 0 u1.1 ⟨by omega, by omega⟩ (by decide) (Or.inl rfl)]
      exact Hf _ eL ρ' τ1 u1 u2 u3
    · rw [if_neg cf]
      rw [if_neg (by omega)] at eL
      have ep : rup (rup ρ1 59 (6 * l) 4) 51 21 (d + 1) 51 12 = tkE (ρ 58) (ρ 51 10) (ρ1 51 13) := by rw [rup51 (by decide), p59]
      refine m_k5 hl (ms_d M (x := d + 1) (by omega)) rfl (fun f e ρ' τ' u1 u2 u3 => ?_) (fun p' N' e ρ' τ' u => ?_)
      · rw [ep] at e
        show G 132 254 (some (.ref 51) :: some (vI (6 * l)) :: []) ((some (vI 0)).toList ++ []) (toM ρ' τ') Q
        rw [b132_254 ρ' τ' (6 * l) [] 0 u1.1 ⟨by omega, by omega⟩ (by decide) (Or.inl rfl)]
        exact Hf f (by rw [eL, show (nOf 5).toNat = 3 from rfl, e]) ρ' τ' u1 u2 u3
      · rw [ep] at e
        show G 132 254 (some (.ref 51) :: some (vI (6 * l)) :: []) ((some (vI 1)).toList ++ []) (toM ρ' τ') Q
        rw [b132_254 ρ' τ' (6 * l) [] 1 u.1.1 ⟨by omega, by omega⟩ (by decide) (Or.inr rfl)]
        exact Hs 5 p' N' (by rw [eL, show (nOf 5).toNat = 3 from rfl, e]) ρ' τ' u
  rw [if_neg (fun z => k5 (w4.mp z))]
  by_cases k6 : k = 6
  · rw [if_pos (w5.mpr k6), if_pos (by omega), if_pos (by omega)]
    subst k6
    have M := ms_0 (k := 6) (x := 5) hl hst t1 t2 hp1 rfl (by omega)
    rw [b131_0 _ τ1 (6 * l) M.1.1 ⟨by omega, by omega⟩]
    have e22 : rup ρ1 59 (6 * l) 5 51 22 = s := M.2.2.2.2.2.2.2.2.2.2
    have e19 : rup ρ1 59 (6 * l) 5 51 19 = h := M.2.2.2.2.2.2.2.1
    rw [e22, e19]
    by_cases cf : s = 6
    · rw [if_pos cf]
      rw [if_pos (by omega)] at eL
      refine fl 5 (by omega) _ (fun ρ' u1 u2 u3 => ?_)
      show G 131 13 (some (.ref 51) :: some (vI (6 * l)) :: []) ((some (vI 0)).toList ++ []) (toM ρ' τ1) _
      rw [b131_13 ρ' τ1 (6 * l) [] 0 u1.1 ⟨by omega, by omega⟩ (by decide) (Or.inl rfl), b132_260 ρ' τ1 (6 * l) [] 0 u1.1 ⟨by omega, by omega⟩ (by decide) (Or.inl rfl)]
      exact Hf _ eL ρ' τ1 u1 u2 u3
    · rw [if_neg cf]
      rw [if_neg (by omega)] at eL
      have ep : rup (rup ρ1 59 (6 * l) 5) 51 22 (s + 1) 51 12 = tkE (ρ 58) (ρ 51 10) (ρ1 51 13) := by rw [rup51 (by decide), p59]
      refine m_k6 hl (ms_s M (x := s + 1) (by omega)) rfl (fun f e ρ' τ' u1 u2 u3 => ?_) (fun p' N' e ρ' τ' u => ?_)
      · rw [ep] at e
        show G 132 260 (some (.ref 51) :: some (vI (6 * l)) :: []) ((some (vI 0)).toList ++ []) (toM ρ' τ') Q
        rw [b132_260 ρ' τ' (6 * l) [] 0 u1.1 ⟨by omega, by omega⟩ (by decide) (Or.inl rfl)]
        exact Hf f (by rw [eL, show (nOf 6).toNat = 5 from rfl, e]) ρ' τ' u1 u2 u3
      · rw [ep] at e
        show G 132 260 (some (.ref 51) :: some (vI (6 * l)) :: []) ((some (vI 1)).toList ++ []) (toM ρ' τ') Q
        rw [b132_260 ρ' τ' (6 * l) [] 1 u.1.1 ⟨by omega, by omega⟩ (by decide) (Or.inr rfl)]
        exact Hs 6 p' N' (by rw [eL, show (nOf 6).toNat = 5 from rfl, e]) ρ' τ' u
  rw [if_neg (fun z => k6 (w5.mp z))]
  by_cases k7 : k = 7
  · rw [if_pos (w6.mpr k7), if_pos (by omega), if_pos (by omega)]
    rw [if_neg (by omega)] at eL
    subst k7
    have M := ms_s (ms_d (ms_0 (k := 7) (x := 6) hl hst t1 t2 hp1 rfl (by omega)) (x := 0) (by omega)) (x := 0) (by omega)
    have ep : rup (rup (rup ρ1 59 (6 * l) 6) 51 21 0) 51 22 0 51 12 = tkE (ρ 58) (ρ 51 10) (ρ1 51 13) := by rw [rup51 (by decide), rup51 (by decide), p59]
    have F := fe_of M rfl
    rw [ep] at F
    exact Hs 7 _ _ eL _ τ1 F
  · rw [if_neg (fun z => k7 (w6.mp z)), if_pos (by omega), if_pos (by omega)]
    rw [if_pos (by omega)] at eL
    refine fl (-1) (by omega) _ (fun ρ' u1 u2 u3 => ?_)
    show G 132 277 (some (.ref 51) :: some (vI (6 * l)) :: []) ((some (vI 0)).toList ++ []) (toM ρ' τ1) _
    rw [b132_277 ρ' τ1 (6 * l) [] 0 u1.1 ⟨by omega, by omega⟩ (by decide) (Or.inl rfl)]
    exact Hf _ eL ρ' τ1 u1 u2 u3
end ML
