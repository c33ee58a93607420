/-! loops: ring, write -/
/-- a stretch of a row is filled -/
def fil (ρ : rm) (k : Nat) (lo hi : Int) (f : Int → Int) : rm := fun a j => if a = k ∧ lo ≤ j ∧ j < hi then f j else ρ a j
theorem fil_0 (ρ : rm) (k : Nat) (lo : Int) (f : Int → Int) : fil ρ k lo lo f = ρ := by
  funext a j
  unfold fil
  rw [if_neg (by omega)]
theorem fil_snoc (ρ : rm) (k : Nat) {lo hi : Int} (f : Int → Int) (h : lo ≤ hi) : rup (fil ρ k lo hi f) k hi (f hi) = fil ρ k lo (hi + 1) f := by
  funext a j
  unfold rup fil
  by_cases h1 : a = k ∧ j = hi
  · rw [if_pos h1, if_pos (by omega), h1.2]
  · rw [if_neg h1]
    by_cases h2 : a = k ∧ lo ≤ j ∧ j < hi
    · rw [if_pos h2, if_pos (by omega)]
    · rw [if_neg h2, if_neg (by omega)]
theorem fil_fn {ρ : rm} {k a : Nat} {lo hi : Int} {f : Int → Int} (h : a ≠ k) : fil ρ k lo hi f a = ρ a := by
  funext j
  unfold fil
  rw [if_neg (fun z => h z.1)]
theorem fil_in {ρ : rm} {k : Nat} {lo hi j : Int} {f : Int → Int} (h : lo ≤ j ∧ j < hi) : fil ρ k lo hi f k j = f j := if_pos ⟨rfl, h⟩
theorem fil_out {ρ : rm} {k : Nat} {lo hi j : Int} {f : Int → Int} (h : ¬ (lo ≤ j ∧ j < hi)) : fil ρ k lo hi f k j = ρ k j := if_neg (fun z => h z.2)
theorem rup_comm (ρ : rm) {k a : Nat} (i x j y : Int) (h : k ≠ a) : rup (rup ρ k i x) a j y = rup (rup ρ a j y) k i x := by
  funext b l
  unfold rup
  by_cases h1 : b = a ∧ l = j
  · rw [if_pos h1, if_neg (fun z => h (z.1.symm.trans h1.1)), if_pos h1]
  · rw [if_neg h1]
    by_cases h2 : b = k ∧ l = i
    · rw [if_pos h2, if_pos h2]
    · rw [if_neg h2, if_neg h2, if_neg h1]
theorem rup_rup (ρ : rm) (k : Nat) (i x y : Int) : rup (rup ρ k i x) k i y = rup ρ k i y := by
  funext b l
  unfold rup
  by_cases h1 : b = k ∧ l = i
  · rw [if_pos h1, if_pos h1]
  · rw [if_neg h1, if_neg h1, if_neg h1]
theorem TI_fil {ρ : rm} (h : TI ρ) (k : Nat) (lo hi : Int) (f : Int → Int) (hf : ∀ j, lo ≤ j → j < hi → (loB k j ≤ f j ∧ f j ≤ hiB k j) ∧ -2000000 ≤ f j ∧ f j ≤ 2000000) : TI (fil ρ k lo hi f) := by
  refine ⟨fun a j ha => ?_, fun a j => ?_⟩
  · unfold fil
    split
    · rename_i z; exact (hf j z.2.1 z.2.2).2
    · exact h.1 a j ha
  · unfold fil
    split
    · rename_i z; rw [z.1]; exact (hf j z.2.1 z.2.2).1
    · exact h.2 a j
/-! ring -/
theorem mul_bd {k m : Int} (hk : 1 ≤ k ∧ k ≤ 9999) (hm : 1 ≤ m ∧ m ≤ 1440) : SB (k * m) := by
  have h1 : k * m ≤ 9999 * 1440 := Int.mul_le_mul hk.2 hm.2 (by omega) (by omega)
  have h2 : 0 ≤ k * m := Int.mul_nonneg (by omega) (by omega)
  exact ⟨by omega, by omega⟩
theorem ring_loop {ρ : rm} {τ : Int64} (hB : BM ρ) {k : Int} (hk : 1 ≤ k ∧ k ≤ 9999) : ∀ (d : Nat) (m : Int) (t t' : List (Option Value)), 1 ≤ m → m + d = 1440 →
    ∃ r, (1 ≤ r ∧ r ≤ 1440) ∧ (∀ Q, G 115 2 (some (vI k) :: some (vI m) :: t) [] (toM ρ τ) Q = Q (some (vI r)) (toM ρ τ)) ∧ (∀ Q, G 178 16 (some (.ref 51) :: some (vI k) :: some (vI m) :: t') [] (toM ρ τ) Q = Q (some (vI r)) (toM ρ τ))
  | 0, m, t, t', h1, h2 => by
    have hm : m = 1440 := by omega
    subst hm
    refine ⟨1440, by omega, fun Q => ?_, fun Q => ?_⟩
    · rw [b115_2 ρ τ k 1440 t hB ⟨by omega, by omega⟩ (by decide) (mul_bd hk (by omega)), if_pos (by omega)]
    · rw [b178_16 ρ τ k 1440 t' hB ⟨by omega, by omega⟩ (by decide) (mul_bd hk (by omega)), if_pos (Int.mul_tmod_left k 1440)]
  | d + 1, m, t, t', h1, h2 => by
    by_cases hz : Int.tmod (k * m) 1440 = 0
    · refine ⟨m, by omega, fun Q => ?_, fun Q => ?_⟩
      · rw [b115_2 ρ τ k m t hB ⟨by omega, by omega⟩ ⟨by omega, by omega⟩ (mul_bd hk (by omega)), if_neg (by omega), if_pos hz]
      · rw [b178_16 ρ τ k m t' hB ⟨by omega, by omega⟩ ⟨by omega, by omega⟩ (mul_bd hk (by omega)), if_pos hz]
    · obtain ⟨r, hr, e1, e2⟩ := ring_loop hB hk d (m + 1) t t' (by omega) (by omega)
      refine ⟨r, hr, fun Q => ?_, fun Q => ?_⟩
      · rw [b115_2 ρ τ k m t hB ⟨by omega, by omega⟩ ⟨by omega, by omega⟩ (mul_bd hk (by omega)), if_neg (by omega), if_neg hz, e1]
      · rw [b178_16 ρ τ k m t' hB ⟨by omega, by omega⟩ ⟨by omega, by omega⟩ (mul_bd hk (by omega)), if_neg hz, e2]
theorem ag_ring (a : Int) (ha : SB a) : Agree 111 178 [some (vI a)] := by
  intro ρ τ h
  have hT := h.1
  have hB := hT.1
  rw [b111_0 ρ τ a hB ha]
  have hm : ∀ Q, G 178 0 [some (.ref 51), some (vI a)] [] (toM ρ τ) Q = (if 1 ≤ a ∧ a ≤ 9999 then G 178 16 (some (.ref 51) :: some (vI a) :: some (vI 1) :: []) [] (toM ρ τ) Q else Q (some (vI (-3))) (toM ρ τ)) := by
    intro Q
    rw [b178_0 ρ τ a hB ha, m_in hB ha (by decide) (by decide), b178_8 ρ τ a [] _ hB ha (tv_or (fun z => ⟨by omega, by omega⟩)) (tv_sm _)]
    by_cases h1 : 1 ≤ a ∧ a ≤ 9999
    · rw [if_neg (by rw [tv_t h1]; decide), if_pos h1]; rfl
    · rw [if_pos (tv_f h1), if_neg h1]
  split
  · refine ⟨_, by decide, rfl, ?_⟩
    rw [hm, if_neg (by omega)]
    exact ag_end rfl h
  · split
    · refine ⟨_, by decide, rfl, ?_⟩
      rw [hm, if_neg (by omega)]
      exact ag_end rfl h
    · obtain ⟨r, hr, e1, e2⟩ := ring_loop (τ := τ) hB (k := a) (by omega) 1439 1 [] [] (by omega) (by omega)
      rw [b115_0 ρ τ a hB ⟨by omega, by omega⟩, e1, b111_16 ρ τ a [] r hB ha ⟨by omega, by omega⟩]
      refine ⟨r, ⟨by omega, by omega⟩, rfl, ?_⟩
      rw [hm, if_pos (by omega), e2]
      exact ag_end rfl h
/-! write -/
def byt (x : Int64) (i : Int) : Int := ((x >>> ((iI (8 * i)).toInt64 &&& 63)) &&& (255 : Int64)).toInt32.toInt
theorem byt_rg (x : Int64) (i : Int) : 0 ≤ byt x i ∧ byt x i ≤ 255 := by
  unfold byt
  generalize x >>> ((iI (8 * i)).toInt64 &&& 63) = y
  have h1 : (y &&& 255).toBitVec.toNat ≤ 255 := by
    rw [Int64.toBitVec_and, BitVec.toNat_and]
    exact Nat.and_le_right
  have h2 : (y &&& 255).toInt = ((y &&& 255).toBitVec.toNat : Int) := by
    show (y &&& 255).toBitVec.toInt = _
    exact BitVec.toInt_eq_toNat_of_lt (by omega)
  rw [Int64.toInt_toInt32, h2]
  have h3 : (((y &&& 255).toBitVec.toNat : Int)).bmod (2 ^ 32) = ((y &&& 255).toBitVec.toNat : Int) := Int.bmod_eq_of_le (by omega) (by omega)
  rw [h3]
  omega
theorem c_append_loop {ρ : rm} {τ : Int64} (hT : TI ρ) (x : Int64) {n L : Int} (hn : 1 ≤ n ∧ n ≤ 8) (hL : 0 ≤ L ∧ L + n ≤ 200) {Q : Option Value → mm → Prop} : ∀ (d : Nat) (i : Int) (t : List (Option Value)), 0 ≤ i → i + d = n →
    G 69 18 (some (.ref 4) :: some (.long x) :: none :: some (vI n) :: some (vI i) :: t) [] (toM (rup (fil ρ 37 L (L + i) (fun j => byt x (j - L))) 4 1 (L + i)) τ) Q = Q (some (vI (L + n))) (toM (rup (fil ρ 37 L (L + n) (fun j => byt x (j - L))) 4 1 (L + n)) τ)
  | d, i, t, h1, h2 => by
    have hM : TI (rup (fil ρ 37 L (L + i) (fun j => byt x (j - L))) 4 1 (L + i)) := TI_up (TI_fil hT 37 L (L + i) _ (fun j _ _ => by
      have := byt_rg x (j - L)
      exact ⟨show 0 ≤ byt x (j - L) ∧ byt x (j - L) ≤ 255 by omega, by omega, by omega⟩)) 4 1 (x := L + i) (show 0 ≤ L + i ∧ L + i ≤ 200 by omega) (by omega)
    rw [b69_18 _ τ x n i t hM.1 ⟨by omega, by omega⟩ ⟨by omega, by omega⟩]
    match d, h2 with
    | 0, h2 =>
      have hi : i = n := by omega
      subst hi
      rw [if_pos (by omega), rup_same]
    | d + 1, h2 =>
      rw [if_neg (by omega), rup_same, if_pos (by omega)]
      have e1 : rup (rup (rup (fil ρ 37 L (L + i) (fun j => byt x (j - L))) 4 1 (L + i)) 37 (L + i) (byt x i)) 4 1 (L + i + 1) = rup (fil ρ 37 L (L + (i + 1)) (fun j => byt x (j - L))) 4 1 (L + (i + 1)) := by
        rw [rup_comm _ _ _ _ _ (by decide), rup_rup]
        have := fil_snoc ρ 37 (lo := L) (hi := L + i) (fun j => byt x (j - L)) (by omega)
        simp only [show L + i - L = i by omega] at this
        rw [rup_comm _ _ _ _ _ (by decide), this, show L + i + 1 = L + (i + 1) by omega]
      show G 69 18 _ [] (toM (rup (rup (rup (fil ρ 37 L (L + i) (fun j => byt x (j - L))) 4 1 (L + i)) 37 (L + i) (byt x i)) 4 1 (L + i + 1)) τ) Q = _
      rw [e1]
      exact c_append_loop hT x hn hL d (i + 1) t (by omega) (by omega)
  termination_by d => d
theorem m_write_loop {ρ : rm} {τ : Int64} (hT : TI ρ) (x : Int64) {n : Int} (hn : 1 ≤ n ∧ n ≤ 8) (hL : 0 ≤ ρ 51 10 ∧ ρ 51 10 + n ≤ 200) {Q : Option Value → mm → Prop} : ∀ (d : Nat) (i : Int) (t : List (Option Value)), 0 ≤ i → i + d = n →
    G 123 31 (some (.ref 51) :: some (.long x) :: none :: some (vI n) :: some (vI i) :: t) [] (toM (fil ρ 58 (ρ 51 10) (ρ 51 10 + i) (fun j => byt x (j - ρ 51 10))) τ) Q = Q (some (vI (ρ 51 10 + n))) (toM (rup (fil ρ 58 (ρ 51 10) (ρ 51 10 + n) (fun j => byt x (j - ρ 51 10))) 51 10 (ρ 51 10 + n)) τ)
  | d, i, t, h1, h2 => by
    have hM : TI (fil ρ 58 (ρ 51 10) (ρ 51 10 + i) (fun j => byt x (j - ρ 51 10))) := TI_fil hT 58 _ _ _ (fun j _ _ => by
      have := byt_rg x (j - ρ 51 10)
      exact ⟨show 0 ≤ byt x (j - ρ 51 10) ∧ byt x (j - ρ 51 10) ≤ 255 by omega, by omega, by omega⟩)
    rw [b123_31 _ τ x n i t hM.1 ⟨by omega, by omega⟩ ⟨by omega, by omega⟩]
    simp (disch := omega) only [fil_fn]
    match d, h2 with
    | 0, h2 =>
      have hi : i = n := by omega
      subst hi
      rw [if_pos (by omega)]
    | d + 1, h2 =>
      rw [if_neg (by omega), if_pos (by omega)]
      have e1 := fil_snoc ρ 58 (lo := ρ 51 10) (hi := ρ 51 10 + i) (fun j => byt x (j - ρ 51 10)) (by omega)
      simp only [show ρ 51 10 + i - ρ 51 10 = i by omega] at e1
      show G 123 31 _ [] (toM (rup (fil ρ 58 (ρ 51 10) (ρ 51 10 + i) (fun j => byt x (j - ρ 51 10))) 58 (ρ 51 10 + i) (byt x i)) τ) Q = _
      rw [e1, show ρ 51 10 + i + 1 = ρ 51 10 + (i + 1) by omega]
      exact m_write_loop hT x hn hL d (i + 1) t (by omega) (by omega)
  termination_by d => d
theorem ag_write (x : Int64) (n : Int) (hn : SB n) : Agree 81 123 [some (.long x), none, some (vI n)] := by
  intro ρ τ h
  have hT := h.1
  obtain ⟨t1, t2⟩ := id h.T
  have hL : 0 ≤ ρ 4 1 ∧ ρ 4 1 ≤ 200 := hT.2 4 1
  have hm : ∀ (ρ' : rm) (Q : Option Value → mm → Prop), TI ρ' → G 123 0 [some (.ref 51), some (.long x), none, some (vI n)] [] (toM ρ' τ) Q = (if 1 ≤ n ∧ n ≤ 8 then (if ρ' 51 10 + n ≤ 200 then G 123 31 (some (.ref 51) :: some (.long x) :: none :: some (vI n) :: some (vI 0) :: []) [] (toM ρ' τ) Q else Q (some (vI (-5))) (toM ρ' τ)) else Q (some (vI (-3))) (toM ρ' τ)) := by
    intro ρ' Q hT'
    rw [b123_0 ρ' τ x n hT'.1 hn, m_in hT'.1 hn (by decide) (by decide), b123_7 ρ' τ x n [] _ hT'.1 hn (tv_or (fun z => ⟨by omega, by omega⟩)) (tv_sm _)]
    by_cases h1 : 1 ≤ n ∧ n ≤ 8
    · rw [if_neg (by rw [tv_t h1]; decide), if_pos h1]; rfl
    · rw [if_pos (tv_f h1), if_neg h1]
  rw [b81_0 ρ τ x n hT.1 hn]
  split
  · refine ⟨_, by decide, rfl, ?_⟩
    rw [hm _ _ hT, if_neg (by omega)]
    exact ag_end rfl h
  · split
    · rw [b69_0 ρ τ x n hT.1 ⟨by omega, by omega⟩]
      split
      · rename_i h1 h2 h3
        obtain ⟨L, hLe⟩ : ∃ L, L = ρ 4 1 := ⟨_, rfl⟩
        rw [← hLe] at t1 hL h3
        have e0 : toM ρ τ = toM (rup (fil ρ 37 L (L + 0) (fun j => byt x (j - L))) 4 1 (L + 0)) τ := by
          rw [Int.add_zero, fil_0]
          congr 1
          funext a j
          unfold rup
          split
          · rename_i z; rw [z.1, z.2, hLe]
          · rfl
        rw [e0, c_append_loop hT x (by omega) (by omega) n.toNat 0 [] (by omega) (by omega)]
        have T1 : TI (rup (fil ρ 37 L (L + n) (fun j => byt x (j - L))) 4 1 (L + n)) := TI_up (TI_fil hT 37 L (L + n) _ (fun j _ _ => by
          have := byt_rg x (j - L)
          exact ⟨show 0 ≤ byt x (j - L) ∧ byt x (j - L) ≤ 255 by omega, by omega, by omega⟩)) 4 1 (x := L + n) (show 0 ≤ L + n ∧ L + n ≤ 200 by omega) (by omega)
        rw [b81_23 _ τ x n [] (L + n) T1.1 hn ⟨by omega, by omega⟩]
        refine ⟨_, ⟨by omega, by omega⟩, rfl, ?_⟩
        rw [hm _ _ T1]
        obtain ⟨ρ1, hρ1⟩ : ∃ ρ1, ρ1 = rup (fil ρ 37 L (L + n) (fun j => byt x (j - L))) 4 1 (L + n) := ⟨_, rfl⟩
        rw [← hρ1] at T1 ⊢
        have e1 : ρ1 51 10 = L := by
          rw [hρ1]
          simp (disch := omega) only [rup_fn, fil_fn]
          exact t1.symm
        rw [if_pos (by omega), if_pos (by omega)]
        have e2 : toM ρ1 τ = toM (fil ρ1 58 (ρ1 51 10) (ρ1 51 10 + 0) (fun j => byt x (j - ρ1 51 10))) τ := by rw [Int.add_zero, fil_0]
        rw [e2, m_write_loop T1 x (by omega) (by omega) n.toNat 0 [] (by omega) (by omega)]
        have T2 : TI (rup (fil ρ1 58 (ρ1 51 10) (ρ1 51 10 + n) (fun j => byt x (j - ρ1 51 10))) 51 10 (ρ1 51 10 + n)) := TI_up (TI_fil T1 58 _ _ _ (fun j _ _ => by
          have := byt_rg x (j - ρ1 51 10)
          exact ⟨show 0 ≤ byt x (j - ρ1 51 10) ∧ byt x (j - ρ1 51 10) ≤ 255 by omega, by omega, by omega⟩)) 51 10 (x := ρ1 51 10 + n) (show 0 ≤ ρ1 51 10 + n ∧ ρ1 51 10 + n ≤ 200 by omega) (by omega)
        refine ⟨vI_eq (by omega), _, _, rfl, ?_⟩
        rw [e1] at T2 ⊢
        rw [hρ1] at T2 ⊢
        exact ⟨T2, (by have z := h.2.1; unfold RH at z ⊢; simpa (disch := omega) only [rup_fn, rup_sl, fil_fn] using z), (by have z := h.D; unfold RD at z ⊢; simpa (disch := omega) only [rup_fn, rup_sl, fil_fn] using z), (by have z := h.O; unfold RO at z ⊢; simpa (disch := omega) only [rup_fn, rup_sl, fil_fn] using z), (by have z := h.S; unfold RS at z ⊢; simpa (disch := omega) only [rup_fn, rup_sl, fil_fn] using z), (by
          unfold RT
          simp (disch := omega) only [rup_fn, fil_fn, rup_same]
          refine ⟨rfl, fun j h4 h5 => ?_⟩
          by_cases hj : L ≤ j
          · rw [fil_in (by omega), fil_in (by omega)]
          · rw [fil_out (by omega), fil_out (by omega)]
            exact t2 j h4 (by omega)), (by have z := h.W; unfold RW at z ⊢; simpa (disch := omega) only [rup_fn, rup_sl, fil_fn] using z), (by have z := h.K; unfold RK at z ⊢; simpa (disch := omega) only [rup_fn, rup_sl, fil_fn] using z), (by have z := h.B; unfold RB at z ⊢; simpa (disch := omega) only [rup_fn, rup_sl, fil_fn] using z), (by have z := h.G; unfold RG at z ⊢; simpa (disch := omega) only [rup_fn, rup_sl, fil_fn] using z)⟩
      · have e9 : ρ 51 10 = ρ 4 1 := t1.symm
        rw [b81_23 ρ τ x n [] (-5) hT.1 hn (by decide)]
        refine ⟨_, by decide, rfl, ?_⟩
        rw [hm _ _ hT, if_pos (by omega), if_neg (by omega)]
        exact ag_end rfl h
    · refine ⟨_, by decide, rfl, ?_⟩
      rw [hm _ _ hT, if_neg (by omega)]
      exact ag_end rfl h
