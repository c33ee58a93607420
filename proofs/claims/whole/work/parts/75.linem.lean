/-! a line: the reference reads it -/
theorem tkT_num {T : Int → Int} {n s : Int} (h : s ≤ n) : tkT T n s = -1 ↔ tkK T n s = 2 ∧ 0 ≤ tkV T n s := by
  by_cases c0 : n ≤ s
  · unfold tkT tkK
    rw [if_pos c0, if_pos c0]
    omega
  · by_cases c : q_let (T s)
    · have hK : tkK T n s = 1 := by unfold tkK; rw [if_neg c0, if_pos c]
      have rb := ru_bd (P := q_let) (T := T) (n := n) (p := s) (by omega)
      unfold tkT
      rw [if_neg c0, if_pos c, hK, tk_let c0 c]
      constructor
      · intro z
        split at z
        · have := (hs_n (T := T) (s := s) (ru q_let T n s - s).toNat (by omega) (fun q q1 q2 => rb.2.2 _ (by omega) (by omega))).1
          omega
        · omega
      · intro z; omega
    · by_cases c2 : q_dig (T s)
      · have hK : tkK T n s = 2 := by unfold tkK; rw [if_neg c0, if_neg c, if_pos c2]
        have r := tkV_rg h hK
        unfold tkT
        rw [if_neg c0, if_neg c, if_pos c2, hK]
        constructor
        · intro z
          split at z
          · exact ⟨rfl, r.2.2.2 (by omega)⟩
          · omega
        · intro z
          split
          · rfl
          · have := r.2.2.1 (by omega)
            omega
      · unfold tkT tkK
        rw [if_neg c0, if_neg c, if_neg c2, if_neg c0, if_neg c, if_neg c2]
        constructor
        · intro z; split at z <;> omega
        · intro z; have := z.1; split at this <;> omega
def KM (l : Int) (ρ ρ' : rm) : Prop := ∀ a j, ¬ (a = 51 ∧ 12 ≤ j ∧ j ≤ 22 ∧ j ≠ 18) → ¬ (a = 59 ∧ 6 * l ≤ j ∧ j < 6 * l + 6) → ρ' a j = ρ a j
theorem KM.refl (l : Int) (ρ : rm) : KM l ρ ρ := fun _ _ _ _ => rfl
theorem KM.trans {l : Int} {a b c : rm} (h1 : KM l a b) (h2 : KM l b c) : KM l a c := fun k j x y => (h2 k j x y).trans (h1 k j x y)
theorem KM.of {l : Int} {ρ ρ' : rm} (h : K51 ρ ρ') : KM l ρ ρ' := fun a j h1 _ => h a j (fun z => h1 ⟨z.1, by omega⟩)
theorem KM.up {l : Int} {ρ ρ' : rm} (h : KM l ρ ρ') {i : Int} (x : Int) (hi : 12 ≤ i ∧ i ≤ 22 ∧ i ≠ 18) : KM l ρ (rup ρ' 51 i x) := fun a j h1 h2 => by
  rw [← h a j h1 h2]
  unfold rup
  rw [if_neg (fun z => h1 ⟨z.1, by omega⟩)]
theorem KM.up59 {l : Int} {ρ ρ' : rm} (h : KM l ρ ρ') {i : Int} (x : Int) (hi : 6 * l ≤ i ∧ i < 6 * l + 6) : KM l ρ (rup ρ' 59 i x) := fun a j h1 h2 => by
  rw [← h a j h1 h2]
  unfold rup
  rw [if_neg (fun z => h2 ⟨z.1, by omega⟩)]
def KN (w : Int) (ρ ρ' : rm) : Prop := ∀ a j, ¬ (a = 51 ∧ 12 ≤ j ∧ j ≤ 17) → ¬ (a = 59 ∧ j = w) → ρ' a j = ρ a j
section LM
variable {τ : Int64} {Q : Option Value → mm → Prop}
theorem m_num {ρ : rm} (hT : TI ρ) (hp : 0 ≤ ρ 51 12 ∧ ρ 51 12 ≤ ρ 51 10) {w lo hi : Int} (hw : 0 ≤ w ∧ w < 60) (hlo : 0 ≤ lo ∧ lo ≤ 2000) (hhi : -10 ≤ hi ∧ hi ≤ 2000)
    (Hf : ¬ (tkK (ρ 58) (ρ 51 10) (tkS (ρ 58) (ρ 51 10) (ρ 51 12)) = 2 ∧ lo ≤ tkV (ρ 58) (ρ 51 10) (tkS (ρ 58) (ρ 51 10) (ρ 51 12)) ∧ tkV (ρ 58) (ρ 51 10) (tkS (ρ 58) (ρ 51 10) (ρ 51 12)) ≤ hi) → ∀ ρ' τ', TI ρ' → KN w ρ ρ' → ρ' 51 17 = tkS (ρ 58) (ρ 51 10) (ρ 51 12) → Q (some (vI 0)) (toM ρ' τ'))
    (Hs : (tkK (ρ 58) (ρ 51 10) (tkS (ρ 58) (ρ 51 10) (ρ 51 12)) = 2 ∧ lo ≤ tkV (ρ 58) (ρ 51 10) (tkS (ρ 58) (ρ 51 10) (ρ 51 12)) ∧ tkV (ρ 58) (ρ 51 10) (tkS (ρ 58) (ρ 51 10) (ρ 51 12)) ≤ hi) → ∀ ρ' τ', TI ρ' → KN w ρ ρ' → ρ' 51 13 = tkS (ρ 58) (ρ 51 10) (ρ 51 12) → ρ' 51 12 = tkE (ρ 58) (ρ 51 10) (tkS (ρ 58) (ρ 51 10) (ρ 51 12)) → ρ' 59 w = tkV (ρ 58) (ρ 51 10) (tkS (ρ 58) (ρ 51 10) (ρ 51 12)) → Q (some (vI 1)) (toM ρ' τ')) :
    G 127 0 [some (.ref 51), some (vI w), some (vI lo), some (vI hi)] [] (toM ρ τ) Q := by
  rw [b127_0 ρ τ w lo hi hT.1 ⟨by omega, by omega⟩ ⟨by omega, by omega⟩ ⟨by omega, by omega⟩]
  refine m_tok _ ρ hT hp rfl (fun ρ1 t1 t2 t3 t4 t5 => ?_)
  have b1 := tkS_bd (T := ρ 58) hp.2
  have hn : 0 ≤ ρ 51 10 ∧ ρ 51 10 ≤ 200 := hT.2 51 10
  rw [← t3] at Hf Hs b1
  have nu := tkT_num (T := ρ 58) b1.2
  have n13 : 0 ≤ ρ1 51 13 ∧ ρ1 51 13 ≤ 200 := t1.2 51 13
  have n16 : 0 ≤ ρ1 51 16 ∧ ρ1 51 16 ≤ 9999 := t1.2 51 16
  have fail : ∀ τ', ¬ (tkK (ρ 58) (ρ 51 10) (ρ1 51 13) = 2 ∧ lo ≤ tkV (ρ 58) (ρ 51 10) (ρ1 51 13) ∧ tkV (ρ 58) (ρ 51 10) (ρ1 51 13) ≤ hi) → G 126 0 [some (.ref 51)] [] (toM ρ1 τ') (fun v μ2 => G 127 31 (some (.ref 51) :: some (vI w) :: some (vI lo) :: some (vI hi) :: []) (v.toList ++ []) μ2 Q) := fun τ' c => by
    have hT2 := TI_up t1 51 17 (x := ρ1 51 13) (show 0 ≤ ρ1 51 13 ∧ ρ1 51 13 ≤ 200 by omega) (by omega)
    rw [b126_0 ρ1 τ' t1.1, b127_31 _ τ' w lo hi [] 0 hT2.1 ⟨by omega, by omega⟩ ⟨by omega, by omega⟩ ⟨by omega, by omega⟩ (by decide) (Or.inl rfl)]
    refine Hf c _ τ' hT2 (fun a j h1 h2 => ?_) (rup_same _ _ _ _)
    rw [← t2 a j (by omega)]
    unfold rup
    rw [if_neg (fun z => h1 ⟨z.1, by omega⟩)]
  show G 127 4 (some (.ref 51) :: some (vI w) :: some (vI lo) :: some (vI hi) :: []) ((none : Option Value).toList ++ []) (toM ρ1 (jI (tkT (ρ 58) (ρ 51 10) (ρ1 51 13)))) Q
  rw [b127_4 ρ1 _ w lo hi [] t1.1 ⟨by omega, by omega⟩ ⟨by omega, by omega⟩ ⟨by omega, by omega⟩]
  by_cases c : tkT (ρ 58) (ρ 51 10) (ρ1 51 13) = -1
  · have c2 := nu.mp c
    have v := t5 c
    rw [if_pos (by rw [c, jI_m1]), m_in t1.1 ⟨by omega, by omega⟩ ⟨by omega, by omega⟩ ⟨by omega, by omega⟩, b127_24 ρ1 _ w lo hi [] _ t1.1 ⟨by omega, by omega⟩ ⟨by omega, by omega⟩ ⟨by omega, by omega⟩ (tv_sm _)]
    by_cases c3 : lo ≤ ρ1 51 16 ∧ ρ1 51 16 ≤ hi
    · rw [if_neg (by rw [tv_0]; exact fun z => z c3), if_pos (by omega)]
      rw [v] at c3
      refine Hs ⟨c2.1, c3⟩ _ _ (TI_up t1 59 w (x := ρ1 51 16) (show -1 ≤ ρ1 51 16 ∧ ρ1 51 16 ≤ 9999 by omega) (by omega)) (fun a j h1 h2 => ?_) ?_ ?_ ?_
      · rw [← t2 a j (by omega)]
        unfold rup
        rw [if_neg h2]
      · exact rup_ne _ _ _ _ (by decide)
      · rw [rup_ne _ _ _ _ (by decide), t4]
      · rw [rup_same, v]
    · rw [if_pos (by rw [tv_0]; exact c3)]
      refine fail _ (fun z => c3 ?_)
      rw [v]; exact z.2
  · rw [if_neg (fun z => c ((jI_eq tkT_lb (by decide)).mp (z.trans jI_m1)))]
    exact fail _ (fun z => c (nu.mpr ⟨z.1, by omega⟩))
/-- in the midst of a line -/
def MS (T : Int → Int) (n l k h w d s : Int) (ρ0 : rm) (i : Int) (N : Int → Int) (ρ : rm) : Prop :=
  TI ρ ∧ KM l ρ0 ρ ∧ (ρ 58 = T ∧ ρ 51 10 = n) ∧ (0 ≤ ρ 51 12 ∧ ρ 51 12 ≤ n) ∧ (∀ j, 0 ≤ j → j < i → ρ 59 (6 * l + 1 + j) = N j) ∧ PN k h N i ∧ ρ 59 (6 * l) = k - 1 ∧ ρ 51 19 = h ∧ ρ 51 20 = w ∧ ρ 51 21 = d ∧ ρ 51 22 = s
theorem ms_next {T : Int → Int} {n l k h w d s i v : Int} {ρ0 ρ ρ' : rm} {N : Int → Int} (h0 : 0 ≤ i ∧ i < 5) (hM : MS T n l k h w d s ρ0 i N ρ) (hT : TI ρ') (hK : KN (6 * l + 1 + i) ρ ρ') (hp : 0 ≤ ρ' 51 12 ∧ ρ' 51 12 ≤ n) (hv : ρ' 59 (6 * l + 1 + i) = v) (ho : okN k i (N 0) (N 1) h v) : MS T n l k h w d s ρ0 (i + 1) (fun j => if j = i then v else N j) ρ' := by
  obtain ⟨m1, m2, m3, m4, m5, m6, m7, m8, m9, m10, m11⟩ := hM
  refine ⟨hT, m2.trans (fun a j x y => hK a j (by omega) (by omega)), ⟨?_, ?_⟩, hp, fun j j1 j2 => ?_, PN_up h0.1 m6 ho, ?_, ?_, ?_, ?_, ?_⟩
  · rw [← m3.1]; exact funext fun j => hK 58 j (by omega) (by omega)
  · rw [← m3.2]; exact hK 51 10 (by omega) (by omega)
  · by_cases e : j = i
    · rw [e, hv]
      show v = if i = i then v else N i
      rw [if_pos rfl]
    · rw [hK 59 _ (by omega) (by omega), m5 j j1 (by omega)]
      show N j = if j = i then v else N j
      rw [if_neg e]
  · rw [← m7]; exact hK 59 _ (by omega) (by omega)
  · rw [← m8]; exact hK 51 _ (by omega) (by omega)
  · rw [← m9]; exact hK 51 _ (by omega) (by omega)
  · rw [← m10]; exact hK 51 _ (by omega) (by omega)
  · rw [← m11]; exact hK 51 _ (by omega) (by omega)
theorem m_st {T : Int → Int} {n l k h w d s i : Int} {q : Nat} {ρ0 ρ : rm} {N : Int → Int} {lo hi : Int} (hl : 0 ≤ l ∧ l < 10) (h0 : 0 ≤ i ∧ i < 5) (hM : MS T n l k h w d s ρ0 i N ρ) (hk : ¬ (k = 4 ∧ i = 1)) (elo : lo = lwO k i (N 1)) (ehi : hi = grO k i h)
    (Hf : ∀ f, rdN T n k h (q + 1) i (ρ 51 12) N = .inl f → ∀ ρ' τ', TI ρ' → KM l ρ0 ρ' → ρ' 51 17 = f → Q (some (vI 0)) (toM ρ' τ'))
    (Hs : ∀ ρ' τ' N', rdN T n k h (q + 1) i (ρ 51 12) N = rdN T n k h q (i + 1) (ρ' 51 12) N' → MS T n l k h w d s ρ0 (i + 1) N' ρ' → Q (some (vI 1)) (toM ρ' τ')) : G 127 0 [some (.ref 51), some (vI (6 * l + 1 + i)), some (vI lo), some (vI hi)] [] (toM ρ τ) Q := by
  have hM' := hM
  obtain ⟨m1, m2, m3, m4, m5, m6, m7, m8, m9, m10, m11⟩ := hM'
  have hh : 0 ≤ h ∧ h ≤ 10 := by rw [← m8]; exact m1.2 51 19
  have r1 := lsO_rg k i
  have r2 := grO_rg k i hh
  have r3 : 0 ≤ lo ∧ lo ≤ 1440 := by
    rw [elo]
    unfold lwO
    split
    · have := PN_rg hh m6 (j := 1) (by omega) (by omega)
      omega
    · omega
  have b1 := tkS_bd (T := T) m4.2
  have b2 := tkE_bd (T := T) b1.2
  have eN : rdN T n k h (q + 1) i (ρ 51 12) N = if tkK T n (tkS T n (ρ 51 12)) = 2 ∧ okN k i (N 0) (N 1) h (tkV T n (tkS T n (ρ 51 12))) then rdN T n k h q (i + 1) (tkE T n (tkS T n (ρ 51 12))) (fun j => if j = i then tkV T n (tkS T n (ρ 51 12)) else N j) else .inl (tkS T n (ρ 51 12)) := rfl
  have kmn : ∀ {ρ'}, KN (6 * l + 1 + i) ρ ρ' → KM l ρ0 ρ' := fun hK => m2.trans (fun a j x y => hK a j (by omega) (by omega))
  refine m_num m1 (by rw [m3.2]; exact m4) ⟨by omega, by omega⟩ ⟨by omega, by omega⟩ ⟨by omega, by omega⟩ (fun c ρ' τ' t1 t2 t3 => ?_) (fun c ρ' τ' t1 t2 t3 t4 t5 => ?_)
  · rw [m3.1, m3.2] at c t3
    rw [if_neg (fun z => c ⟨z.1, by rw [elo]; exact z.2.2.1, by rw [ehi]; exact z.2.2.2⟩)] at eN
    exact Hf _ eN ρ' τ' t1 (kmn t2) t3
  · rw [m3.1, m3.2] at c t3 t4 t5
    have ho : okN k i (N 0) (N 1) h (tkV T n (tkS T n (ρ 51 12))) := ⟨fun z => hk ⟨z.1, z.2.1⟩, by rw [← elo]; exact c.2.1, by rw [← ehi]; exact c.2.2⟩
    rw [if_pos ⟨c.1, ho⟩] at eN
    refine Hs ρ' τ' _ (by rw [t4]; exact eN) (ms_next h0 hM t1 t2 (by rw [t4]; omega) t5 ho)
end LM
