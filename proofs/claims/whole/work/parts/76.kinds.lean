/-! the reference reads a line of each kind (wip/gen/gen_linem2.py) -/
def FF (l : Int) (ρ0 : rm) (res : Int ⊕ (Int × (Int → Int))) (Q : Option Value → mm → Prop) : Prop := ∀ f, res = .inl f → ∀ ρ' τ', TI ρ' → KM l ρ0 ρ' → ρ' 51 17 = f → Q (some (vI 0)) (toM ρ' τ')
def FE (l k : Int) (ρ0 : rm) (h w d s p : Int) (N : Int → Int) (ρ' : rm) : Prop := TI ρ' ∧ KM l ρ0 ρ' ∧ ρ' 51 12 = p ∧ ρ' 59 (6 * l) = k - 1 ∧ (∀ j, 0 ≤ j → j < nOf k → ρ' 59 (6 * l + 1 + j) = N j) ∧ ρ' 51 19 = h ∧ ρ' 51 20 = w ∧ ρ' 51 21 = d ∧ ρ' 51 22 = s
def SS (l k : Int) (ρ0 : rm) (res : Int ⊕ (Int × (Int → Int))) (hf : (Int → Int) → Int) (w d s : Int) (Q : Option Value → mm → Prop) : Prop := ∀ p' N', res = .inr (p', N') → ∀ ρ' τ', FE l k ρ0 (hf N') w d s p' N' ρ' → Q (some (vI 1)) (toM ρ' τ')
theorem fe_of {T : Int → Int} {n l k h w d s i : Int} {ρ0 ρ : rm} {N : Int → Int} (hM : MS T n l k h w d s ρ0 i N ρ) (hi : i = nOf k) : FE l k ρ0 h w d s (ρ 51 12) N ρ := by
  subst hi
  obtain ⟨m1, m2, m3, m4, m5, m6, m7, m8, m9, m10, m11⟩ := hM
  exact ⟨m1, m2, rfl, m7, m5, m8, m9, m10, m11⟩
section LK
variable {τ : Int64} {Q : Option Value → mm → Prop} {T : Int → Int} {n l h w d s : Int} {ρ0 ρ : rm} {N : Int → Int}
theorem m_sw {k i : Int} {q : Nat} {lo hi wv : Int} (hl : 0 ≤ l ∧ l < 10) (h0 : 0 ≤ i ∧ i < 5) (hM : MS T n l k h w d s ρ0 i N ρ) (hk : ¬ (k = 4 ∧ i = 1)) (ew : wv = 6 * l + 1 + i) (elo : lo = lwO k i (N 1)) (ehi : hi = grO k i h)
    (Hf : FF l ρ0 (rdN T n k h (q + 1) i (ρ 51 12) N) Q)
    (Hs : ∀ ρ' τ' N', rdN T n k h (q + 1) i (ρ 51 12) N = rdN T n k h q (i + 1) (ρ' 51 12) N' → MS T n l k h w d s ρ0 (i + 1) N' ρ' → Q (some (vI 1)) (toM ρ' τ')) : G 127 0 [some (.ref 51), some (vI wv), some (vI lo), some (vI hi)] [] (toM ρ τ) Q := by
  subst ew
  exact m_st hl h0 hM hk elo ehi Hf Hs
theorem m_k2 {hi0 : Int} (hl : 0 ≤ l ∧ l < 10) (hM : MS T n l 2 h w d s ρ0 0 N ρ) (eh : hi0 = grO 2 0 h) (HF : FF l ρ0 (rdN T n 2 h 2 0 (ρ 51 12) N) Q) (HS : SS l 2 ρ0 (rdN T n 2 h 2 0 (ρ 51 12) N) (fun _ => h) w d s Q) : G 127 0 [some (.ref 51), some (vI (6 * l + 1)), some (vI 1), some (vI hi0)] [] (toM ρ τ) (fun v μ2 => G 132 184 (some (.ref 51) :: some (vI (6 * l)) :: []) (v.toList ++ []) μ2 Q) := by
  refine m_sw hl (i := 0) (q := 1) (by omega) hM (by omega) (by omega) rfl eh (fun f e ρ' τ' t1 t2 t3 => ?_) (fun ρ1 τ1 N1 e1 M1 => ?_)
  · show G 132 184 (some (.ref 51) :: some (vI (6 * l)) :: []) ((some (vI 0)).toList ++ []) (toM ρ' τ') Q
    rw [b132_184 ρ' τ' (6 * l) [] 0 t1.1 ⟨by omega, by omega⟩ (by decide), if_pos rfl]
    exact HF f e ρ' τ' t1 t2 t3
  · show G 132 184 (some (.ref 51) :: some (vI (6 * l)) :: []) ((some (vI 1)).toList ++ []) (toM ρ1 τ1) Q
    rw [b132_184 ρ1 τ1 (6 * l) [] 1 M1.1.1 ⟨by omega, by omega⟩ (by decide), if_neg (by decide)]
    refine m_sw hl (i := 0 + 1) (q := 0) (by omega) M1 (by omega) (by omega) rfl rfl (fun f e ρ' τ' t1 t2 t3 => ?_) (fun ρ2 τ2 N2 e2 M2 => ?_)
    · show G 132 198 (some (.ref 51) :: some (vI (6 * l)) :: []) ((some (vI 0)).toList ++ []) (toM ρ' τ') Q
      rw [b132_198 ρ' τ' (6 * l) [] 0 t1.1 ⟨by omega, by omega⟩ (by decide), if_pos rfl]
      exact HF f (e1.trans e) ρ' τ' t1 t2 t3
    · show G 132 198 (some (.ref 51) :: some (vI (6 * l)) :: []) ((some (vI 1)).toList ++ []) (toM ρ2 τ2) Q
      rw [b132_198 ρ2 τ2 (6 * l) [] 1 M2.1.1 ⟨by omega, by omega⟩ (by decide), if_neg (by decide)]
      exact HS _ N2 (e1.trans e2) ρ2 τ2 (fe_of M2 (by decide))
theorem m_k3 {hi0 : Int} (hl : 0 ≤ l ∧ l < 10) (hM : MS T n l 3 h w d s ρ0 0 N ρ) (eh : hi0 = grO 3 0 h) (HF : FF l ρ0 (rdN T n 3 h 2 0 (ρ 51 12) N) Q) (HS : SS l 3 ρ0 (rdN T n 3 h 2 0 (ρ 51 12) N) (fun _ => h) w d s Q) : G 127 0 [some (.ref 51), some (vI (6 * l + 1)), some (vI 0), some (vI hi0)] [] (toM ρ τ) (fun v μ2 => G 132 221 (some (.ref 51) :: some (vI (6 * l)) :: []) (v.toList ++ []) μ2 Q) := by
  refine m_sw hl (i := 0) (q := 1) (by omega) hM (by omega) (by omega) rfl eh (fun f e ρ' τ' t1 t2 t3 => ?_) (fun ρ1 τ1 N1 e1 M1 => ?_)
  · show G 132 221 (some (.ref 51) :: some (vI (6 * l)) :: []) ((some (vI 0)).toList ++ []) (toM ρ' τ') Q
    rw [b132_221 ρ' τ' (6 * l) [] 0 t1.1 ⟨by omega, by omega⟩ (by decide), if_pos rfl]
    exact HF f e ρ' τ' t1 t2 t3
  · show G 132 221 (some (.ref 51) :: some (vI (6 * l)) :: []) ((some (vI 1)).toList ++ []) (toM ρ1 τ1) Q
    rw [b132_221 ρ1 τ1 (6 * l) [] 1 M1.1.1 ⟨by omega, by omega⟩ (by decide), if_neg (by decide)]
    refine m_sw hl (i := 0 + 1) (q := 0) (by omega) M1 (by omega) (by omega) rfl rfl (fun f e ρ' τ' t1 t2 t3 => ?_) (fun ρ2 τ2 N2 e2 M2 => ?_)
    · show G 132 234 (some (.ref 51) :: some (vI (6 * l)) :: []) ((some (vI 0)).toList ++ []) (toM ρ' τ') Q
      rw [b132_234 ρ' τ' (6 * l) [] 0 t1.1 ⟨by omega, by omega⟩ (by decide), if_pos rfl]
      exact HF f (e1.trans e) ρ' τ' t1 t2 t3
    · show G 132 234 (some (.ref 51) :: some (vI (6 * l)) :: []) ((some (vI 1)).toList ++ []) (toM ρ2 τ2) Q
      rw [b132_234 ρ2 τ2 (6 * l) [] 1 M2.1.1 ⟨by omega, by omega⟩ (by decide), if_neg (by decide)]
      exact HS _ N2 (e1.trans e2) ρ2 τ2 (fe_of M2 (by decide))
theorem m_k5 {hi0 : Int} (hl : 0 ≤ l ∧ l < 10) (hM : MS T n l 5 h w d s ρ0 0 N ρ) (eh : hi0 = grO 5 0 h) (HF : FF l ρ0 (rdN T n 5 h 3 0 (ρ 51 12) N) Q) (HS : SS l 5 ρ0 (rdN T n 5 h 3 0 (ρ 51 12) N) (fun _ => h) w d s Q) : G 127 0 [some (.ref 51), some (vI (6 * l + 1)), some (vI 0), some (vI hi0)] [] (toM ρ τ) (fun v μ2 => G 130 38 (some (.ref 51) :: some (vI (6 * l)) :: []) (v.toList ++ []) μ2 Q) := by
  refine m_sw hl (i := 0) (q := 2) (by omega) hM (by omega) (by omega) rfl eh (fun f e ρ' τ' t1 t2 t3 => ?_) (fun ρ1 τ1 N1 e1 M1 => ?_)
  · show G 130 38 (some (.ref 51) :: some (vI (6 * l)) :: []) ((some (vI 0)).toList ++ []) (toM ρ' τ') Q
    rw [b130_38 ρ' τ' (6 * l) [] 0 t1.1 ⟨by omega, by omega⟩ (by decide), if_pos rfl]
    exact HF f e ρ' τ' t1 t2 t3
  · show G 130 38 (some (.ref 51) :: some (vI (6 * l)) :: []) ((some (vI 1)).toList ++ []) (toM ρ1 τ1) Q
    rw [b130_38 ρ1 τ1 (6 * l) [] 1 M1.1.1 ⟨by omega, by omega⟩ (by decide), if_neg (by decide)]
    refine m_sw hl (i := 0 + 1) (q := 1) (by omega) M1 (by omega) (by omega) rfl rfl (fun f e ρ' τ' t1 t2 t3 => ?_) (fun ρ2 τ2 N2 e2 M2 => ?_)
    · show G 130 52 (some (.ref 51) :: some (vI (6 * l)) :: []) ((some (vI 0)).toList ++ []) (toM ρ' τ') Q
      rw [b130_52 ρ' τ' (6 * l) [] 0 t1.1 ⟨by omega, by omega⟩ (by decide), if_pos rfl]
      exact HF f (e1.trans e) ρ' τ' t1 t2 t3
    · show G 130 52 (some (.ref 51) :: some (vI (6 * l)) :: []) ((some (vI 1)).toList ++ []) (toM ρ2 τ2) Q
      rw [b130_52 ρ2 τ2 (6 * l) [] 1 M2.1.1 ⟨by omega, by omega⟩ (by decide), if_neg (by decide)]
      refine m_sw hl (i := 0 + 1 + 1) (q := 0) (by omega) M2 (by omega) (by omega) rfl rfl (fun f e ρ' τ' t1 t2 t3 => ?_) (fun ρ3 τ3 N3 e3 M3 => ?_)
      · show G 130 65 (some (.ref 51) :: some (vI (6 * l)) :: []) ((some (vI 0)).toList ++ []) (toM ρ' τ') Q
        rw [b130_65 ρ' τ' (6 * l) [] 0 t1.1 ⟨by omega, by omega⟩ (by decide), if_pos rfl]
        exact HF f (e1.trans (e2.trans e)) ρ' τ' t1 t2 t3
      · show G 130 65 (some (.ref 51) :: some (vI (6 * l)) :: []) ((some (vI 1)).toList ++ []) (toM ρ3 τ3) Q
        rw [b130_65 ρ3 τ3 (6 * l) [] 1 M3.1.1 ⟨by omega, by omega⟩ (by decide), if_neg (by decide)]
        exact HS _ N3 (e1.trans (e2.trans e3)) ρ3 τ3 (fe_of M3 (by decide))
theorem m_k6 {hi0 : Int} (hl : 0 ≤ l ∧ l < 10) (hM : MS T n l 6 h w d s ρ0 0 N ρ) (eh : hi0 = grO 6 0 h) (HF : FF l ρ0 (rdN T n 6 h 5 0 (ρ 51 12) N) Q) (HS : SS l 6 ρ0 (rdN T n 6 h 5 0 (ρ 51 12) N) (fun _ => h) w d s Q) : G 127 0 [some (.ref 51), some (vI (6 * l + 1)), some (vI 0), some (vI hi0)] [] (toM ρ τ) (fun v μ2 => G 131 38 (some (.ref 51) :: some (vI (6 * l)) :: []) (v.toList ++ []) μ2 Q) := by
  refine m_sw hl (i := 0) (q := 4) (by omega) hM (by omega) (by omega) rfl eh (fun f e ρ' τ' t1 t2 t3 => ?_) (fun ρ1 τ1 N1 e1 M1 => ?_)
  · show G 131 38 (some (.ref 51) :: some (vI (6 * l)) :: []) ((some (vI 0)).toList ++ []) (toM ρ' τ') Q
    rw [b131_38 ρ' τ' (6 * l) [] 0 t1.1 ⟨by omega, by omega⟩ (by decide), if_pos rfl]
    exact HF f e ρ' τ' t1 t2 t3
  · show G 131 38 (some (.ref 51) :: some (vI (6 * l)) :: []) ((some (vI 1)).toList ++ []) (toM ρ1 τ1) Q
    rw [b131_38 ρ1 τ1 (6 * l) [] 1 M1.1.1 ⟨by omega, by omega⟩ (by decide), if_neg (by decide)]
    refine m_sw hl (i := 0 + 1) (q := 3) (by omega) M1 (by omega) (by omega) rfl rfl (fun f e ρ' τ' t1 t2 t3 => ?_) (fun ρ2 τ2 N2 e2 M2 => ?_)
    · show G 131 52 (some (.ref 51) :: some (vI (6 * l)) :: []) ((some (vI 0)).toList ++ []) (toM ρ' τ') Q
      rw [b131_52 ρ' τ' (6 * l) [] 0 t1.1 ⟨by omega, by omega⟩ (by decide), if_pos rfl]
      exact HF f (e1.trans e) ρ' τ' t1 t2 t3
    · show G 131 52 (some (.ref 51) :: some (vI (6 * l)) :: []) ((some (vI 1)).toList ++ []) (toM ρ2 τ2) Q
      rw [b131_52 ρ2 τ2 (6 * l) [] 1 M2.1.1 ⟨by omega, by omega⟩ (by decide), if_neg (by decide), if_pos (by omega)]
      refine m_sw hl (i := 0 + 1 + 1) (q := 2) (by omega) M2 (by omega) (by omega) (by rw [show 6 * l + 2 = 6 * l + 1 + 1 by omega, M2.2.2.2.2.1 1 (by omega) (by omega)]; rfl) rfl (fun f e ρ' τ' t1 t2 t3 => ?_) (fun ρ3 τ3 N3 e3 M3 => ?_)
      · show G 131 75 (some (.ref 51) :: some (vI (6 * l)) :: []) ((some (vI 0)).toList ++ []) (toM ρ' τ') Q
        rw [b131_75 ρ' τ' (6 * l) [] 0 t1.1 ⟨by omega, by omega⟩ (by decide), if_pos rfl]
        exact HF f (e1.trans (e2.trans e)) ρ' τ' t1 t2 t3
      · show G 131 75 (some (.ref 51) :: some (vI (6 * l)) :: []) ((some (vI 1)).toList ++ []) (toM ρ3 τ3) Q
        rw [b131_75 ρ3 τ3 (6 * l) [] 1 M3.1.1 ⟨by omega, by omega⟩ (by decide), if_neg (by decide)]
        refine m_sw hl (i := 0 + 1 + 1 + 1) (q := 1) (by omega) M3 (by omega) (by omega) rfl rfl (fun f e ρ' τ' t1 t2 t3 => ?_) (fun ρ4 τ4 N4 e4 M4 => ?_)
        · show G 131 88 (some (.ref 51) :: some (vI (6 * l)) :: []) ((some (vI 0)).toList ++ []) (toM ρ' τ') Q
          rw [b131_88 ρ' τ' (6 * l) [] 0 t1.1 ⟨by omega, by omega⟩ (by decide), if_pos rfl]
          exact HF f (e1.trans (e2.trans (e3.trans e))) ρ' τ' t1 t2 t3
        · show G 131 88 (some (.ref 51) :: some (vI (6 * l)) :: []) ((some (vI 1)).toList ++ []) (toM ρ4 τ4) Q
          rw [b131_88 ρ4 τ4 (6 * l) [] 1 M4.1.1 ⟨by omega, by omega⟩ (by decide), if_neg (by decide)]
          refine m_sw hl (i := 0 + 1 + 1 + 1 + 1) (q := 0) (by omega) M4 (by omega) (by omega) rfl rfl (fun f e ρ' τ' t1 t2 t3 => ?_) (fun ρ5 τ5 N5 e5 M5 => ?_)
          · show G 131 101 (some (.ref 51) :: some (vI (6 * l)) :: []) ((some (vI 0)).toList ++ []) (toM ρ' τ') Q
            rw [b131_101 ρ' τ' (6 * l) [] 0 t1.1 ⟨by omega, by omega⟩ (by decide), if_pos rfl]
            exact HF f (e1.trans (e2.trans (e3.trans (e4.trans e)))) ρ' τ' t1 t2 t3
          · show G 131 101 (some (.ref 51) :: some (vI (6 * l)) :: []) ((some (vI 1)).toList ++ []) (toM ρ5 τ5) Q
            rw [b131_101 ρ5 τ5 (6 * l) [] 1 M5.1.1 ⟨by omega, by omega⟩ (by decide), if_neg (by decide)]
            exact HS _ N5 (e1.trans (e2.trans (e3.trans (e4.trans e5)))) ρ5 τ5 (fe_of M5 (by decide))
theorem m_k1 (hl : 0 ≤ l ∧ l < 10) (hM : MS T n l 1 h w d s ρ0 0 N ρ) (HF : FF l ρ0 (rdN T n 1 h 1 0 (ρ 51 12) N) Q) (HS : SS l 1 ρ0 (rdN T n 1 h 1 0 (ρ 51 12) N) (fun N' => N' 0) 0 0 0 Q) : G 128 0 [some (.ref 51), some (vI (6 * l))] [] (toM ρ τ) Q := by
  rw [b128_0 ρ τ (6 * l) hM.1.1 ⟨by omega, by omega⟩]
  refine m_sw hl (i := 0) (q := 0) (by omega) hM (by omega) (by omega) rfl rfl (fun f e ρ' τ' t1 t2 t3 => ?_) (fun ρ1 τ1 N1 e1 M1 => ?_)
  · show G 128 10 (some (.ref 51) :: some (vI (6 * l)) :: []) ((some (vI 0)).toList ++ []) (toM ρ' τ') Q
    rw [b128_10 ρ' τ' (6 * l) [] 0 t1.1 ⟨by omega, by omega⟩ (by decide), if_pos rfl]
    exact HF f e ρ' τ' t1 t2 t3
  · show G 128 10 (some (.ref 51) :: some (vI (6 * l)) :: []) ((some (vI 1)).toList ++ []) (toM ρ1 τ1) Q
    rw [b128_10 ρ1 τ1 (6 * l) [] 1 M1.1.1 ⟨by omega, by omega⟩ (by decide), if_neg (by decide), if_pos (by omega)]
    obtain ⟨m1, m2, m3, m4, m5, m6, m7, m8, m9, m10, m11⟩ := M1
    have q1 := m5 0 (by omega) (by omega)
    have q2 := m6 0 (by omega) (by omega)
    have q3 : N1 0 ≤ 10 := q2.2.2
    have q4 : 2 ≤ N1 0 := q2.2.1
    rw [show 6 * l + 1 + 0 = 6 * l + 1 by omega] at q1
    rw [q1]
    refine HS _ N1 e1 _ τ1 ⟨TI_up (TI_up (TI_up (TI_up m1 51 19 (x := N1 0) (show 0 ≤ N1 0 ∧ N1 0 ≤ 10 by omega) (by omega)) 51 20 (x := 0) (show (0 : Int) ≤ 0 ∧ (0 : Int) ≤ 8 by omega) (by omega)) 51 21 (x := 0) (show (0 : Int) ≤ 0 ∧ (0 : Int) ≤ 10 by omega) (by omega)) 51 22 (x := 0) (show (0 : Int) ≤ 0 ∧ (0 : Int) ≤ 6 by omega) (by omega), (((m2.up _ (by omega)).up _ (by omega)).up _ (by omega)).up _ (by omega), ?_, ?_, fun j j1 j2 => ?_, ?_, ?_, ?_, ?_⟩
    · rw [rup51 (by decide), rup51 (by decide), rup51 (by decide), rup51 (by decide)]
    · rw [rup_ne _ _ _ _ (by decide), rup_ne _ _ _ _ (by decide), rup_ne _ _ _ _ (by decide), rup_ne _ _ _ _ (by decide)]
      exact m7
    · rw [rup_ne _ _ _ _ (by decide), rup_ne _ _ _ _ (by decide), rup_ne _ _ _ _ (by decide), rup_ne _ _ _ _ (by decide)]
      exact m5 j j1 j2
    · rw [rup51 (by decide), rup51 (by decide), rup51 (by decide), rup_same]
    · rw [rup51 (by decide), rup51 (by decide), rup_same]
    · rw [rup51 (by decide), rup_same]
    · rw [rup_same]
theorem m_k4 {hi0 : Int} (hl : 0 ≤ l ∧ l < 10) (hM : MS T n l 4 h w d s ρ0 0 N ρ) (eh : hi0 = grO 4 0 h) (HF : FF l ρ0 (rdN T n 4 h 3 0 (ρ 51 12) N) Q) (HS : SS l 4 ρ0 (rdN T n 4 h 3 0 (ρ 51 12) N) (fun _ => h) w d s Q) : G 127 0 [some (.ref 51), some (vI (6 * l + 1)), some (vI 0), some (vI hi0)] [] (toM ρ τ) (fun v μ2 => G 129 38 (some (.ref 51) :: some (vI (6 * l)) :: []) (v.toList ++ []) μ2 Q) := by
  refine m_sw hl (i := 0) (q := 2) (by omega) hM (by omega) (by omega) rfl eh (fun f e ρ' τ' t1 t2 t3 => ?_) (fun ρ1 τ1 N1 e1 M1 => ?_)
  · show G 129 38 (some (.ref 51) :: some (vI (6 * l)) :: []) ((some (vI 0)).toList ++ []) (toM ρ' τ') Q
    rw [b129_38 ρ' τ' (6 * l) [] 0 t1.1 ⟨by omega, by omega⟩ (by decide), if_pos rfl]
    exact HF f e ρ' τ' t1 t2 t3
  · show G 129 38 (some (.ref 51) :: some (vI (6 * l)) :: []) ((some (vI 1)).toList ++ []) (toM ρ1 τ1) Q
    rw [b129_38 ρ1 τ1 (6 * l) [] 1 M1.1.1 ⟨by omega, by omega⟩ (by decide), if_neg (by decide)]
    have M1' := M1
    obtain ⟨m1, m2, m3, m4, m5, m6, m7, m8, m9, m10, m11⟩ := M1'
    have hh : 0 ≤ h ∧ h ≤ 10 := by rw [← m8]; exact m1.2 51 19
    have b1 := tkS_bd (T := T) m4.2
    have b2 := tkE_bd (T := T) b1.2
    have q1 := m5 0 (by omega) (by omega)
    rw [show 6 * l + 1 + 0 = 6 * l + 1 by omega] at q1
    have eN : rdN T n 4 h 2 (0 + 1) (ρ1 51 12) N1 = if tkK T n (tkS T n (ρ1 51 12)) = 2 ∧ okN 4 (0 + 1) (N1 0) (N1 1) h (tkV T n (tkS T n (ρ1 51 12))) then rdN T n 4 h 1 (0 + 1 + 1) (tkE T n (tkS T n (ρ1 51 12))) (fun j => if j = 0 + 1 then tkV T n (tkS T n (ρ1 51 12)) else N1 j) else .inl (tkS T n (ρ1 51 12)) := rfl
    have g1 : grO 4 (0 + 1) h = h - 1 := rfl
    have l1 : lwO 4 (0 + 1) (N1 1) = 0 := rfl
    have kmn : ∀ {ρ'}, KN (6 * l + 2) ρ1 ρ' → KM l ρ0 ρ' := fun hK => m2.trans (fun a j x y => hK a j (by omega) (by omega))
    rw [m8]
    refine m_num m1 (by rw [m3.2]; exact m4) ⟨by omega, by omega⟩ ⟨by omega, by omega⟩ ⟨by omega, by omega⟩ (fun c ρ' τ' t1 t2 t3 => ?_) (fun c ρ' τ' t1 t2 t3 t4 t5 => ?_)
    · rw [m3.1, m3.2] at c t3
      rw [if_neg (fun z => c ⟨z.1, by rw [← l1]; exact z.2.2.1, by rw [← g1]; exact z.2.2.2⟩)] at eN
      show G 129 55 (some (.ref 51) :: some (vI (6 * l)) :: []) ((some (vI 0)).toList ++ []) (toM ρ' τ') Q
      rw [b129_55 ρ' τ' (6 * l) [] 0 t1.1 ⟨by omega, by omega⟩ (by decide), if_pos rfl]
      exact HF _ (e1.trans eN) ρ' τ' t1 (kmn t2) t3
    · rw [m3.1, m3.2] at c t3 t4 t5
      have q2 : ρ' 59 (6 * l + 1) = N1 0 := by rw [t2 59 _ (by omega) (by omega), q1]
      show G 129 55 (some (.ref 51) :: some (vI (6 * l)) :: []) ((some (vI 1)).toList ++ []) (toM ρ' τ') Q
      rw [b129_55 ρ' τ' (6 * l) [] 1 t1.1 ⟨by omega, by omega⟩ (by decide), if_neg (by decide), if_pos (by omega), if_pos (by omega), q2, t5]
      by_cases c2 : N1 0 = tkV T n (tkS T n (ρ1 51 12))
      · rw [if_pos c2]
        have n13 : 0 ≤ ρ' 51 13 ∧ ρ' 51 13 ≤ 200 := t1.2 51 13
        have hT2 := TI_up t1 51 17 (x := ρ' 51 13) (show 0 ≤ ρ' 51 13 ∧ ρ' 51 13 ≤ 200 by omega) (by omega)
        rw [b126_0 ρ' τ' t1.1, b129_83 _ τ' (6 * l) [] 0 hT2.1 ⟨by omega, by omega⟩ (by decide) (Or.inl rfl)]
        rw [if_neg (fun z => z.2.1 ⟨rfl, rfl, c2.symm⟩)] at eN
        exact HF _ (e1.trans eN) _ τ' hT2 ((kmn t2).up _ (by omega)) (by rw [rup_same, t3])
      · rw [if_neg c2]
        have ho : okN 4 (0 + 1) (N1 0) (N1 1) h (tkV T n (tkS T n (ρ1 51 12))) := ⟨fun z => c2 z.2.2.symm, by rw [l1]; exact c.2.1, by rw [g1]; exact c.2.2⟩
        rw [if_pos ⟨c.1, ho⟩] at eN
        have M2 := ms_next (ρ' := ρ') (by omega) M1 t1 (by rw [show 6 * l + 1 + (0 + 1) = 6 * l + 2 by omega]; exact t2) (by rw [t4]; omega) (by rw [show 6 * l + 1 + (0 + 1) = 6 * l + 2 by omega]; exact t5) ho
        rw [← t4] at eN
        refine m_sw hl (i := 0 + 1 + 1) (q := 0) (by omega) M2 (by omega) (by omega) rfl rfl (fun f e ρ3 τ3 u1 u2 u3 => ?_) (fun ρ3 τ3 N3 e3 M3 => ?_)
        · show G 129 96 (some (.ref 51) :: some (vI (6 * l)) :: []) ((some (vI 0)).toList ++ []) (toM ρ3 τ3) Q
          rw [b129_96 ρ3 τ3 (6 * l) [] 0 u1.1 ⟨by omega, by omega⟩ (by decide) (Or.inl rfl)]
          exact HF f ((e1.trans eN).trans e) ρ3 τ3 u1 u2 u3
        · show G 129 96 (some (.ref 51) :: some (vI (6 * l)) :: []) ((some (vI 1)).toList ++ []) (toM ρ3 τ3) Q
          rw [b129_96 ρ3 τ3 (6 * l) [] 1 M3.1.1 ⟨by omega, by omega⟩ (by decide) (Or.inr rfl)]
          exact HS _ N3 ((e1.trans eN).trans e3) ρ3 τ3 (fe_of M3 (by decide))
end LK
