/-! WHAT A RUN COMES TO: G y pc locals stack memory Q: the small machine ends, with Q of answer and memory -/
theorem run_mono {sh : List (Nat × Nat × List Nat)} : ∀ (n y pc : Nat) (lv : List (Option Value)) (st : List Value) (μ : mm) (r : Option Value × mm), run sh n y pc lv st μ = some r → run sh (n + 1) y pc lv st μ = some r
  | 0, _, _, _, _, _, _, h => by cases h
  | n + 1, y, pc, lv, st, μ, r, h => by
    unfold run at h ⊢
    split at h
    · cases h
    · rename_i hs
      exact run_mono n _ _ _ _ _ r h
    · rename_i hs
      split at h
      · cases h
      · rename_i hr
        have h1 := run_mono n _ _ _ _ _ _ hr
        simp only [h1]
        exact run_mono n _ _ _ _ _ r h
    · rename_i hs
      exact h
theorem run_le {sh : List (Nat × Nat × List Nat)} {n m y pc : Nat} {lv : List (Option Value)} {st : List Value} {μ : mm} {r : Option Value × mm} (h : run sh n y pc lv st μ = some r) (hm : n ≤ m) : run sh m y pc lv st μ = some r := by
  obtain ⟨d, rfl⟩ := Nat.exists_eq_add_of_le hm
  induction d with
  | zero => exact h
  | succ d ih => exact run_mono _ _ _ _ _ _ _ (ih (Nat.le_add_right n d))
theorem shp_okS : okS shp = true := by decide +kernel
def G (y pc : Nat) (lv : List (Option Value)) (st : List Value) (μ : mm) (Q : Option Value → mm → Prop) : Prop := ∃ n v μ', run shp n y pc lv st μ = some (v, μ') ∧ Q v μ'
section GL
variable {y pc pc' : Nat} {lv lv' : List (Option Value)} {st st' : List Value} {μ μ' : mm} {Q : Option Value → mm → Prop}
theorem G_step (h : stp shp y pc lv st μ = some (.inl (pc', lv', st', μ'))) : G y pc lv st μ Q = G y pc' lv' st' μ' Q := by
  apply propext
  constructor
  · rintro ⟨n, v, m2, h1, h2⟩
    cases n with
    | zero => cases h1
    | succ n =>
      unfold run at h1
      rw [h] at h1
      exact ⟨n, v, m2, h1, h2⟩
  · rintro ⟨n, v, m2, h1, h2⟩
    refine ⟨n + 1, v, m2, ?_, h2⟩
    unfold run
    rw [h]
    exact h1
theorem G_ret {v : Option Value} (h : stp shp y pc lv st μ = some (.inr (.inr (v, μ')))) : G y pc lv st μ Q = Q v μ' := by
  apply propext
  constructor
  · rintro ⟨n, v2, m2, h1, h2⟩
    cases n with
    | zero => cases h1
    | succ n =>
      unfold run at h1
      rw [h] at h1
      cases h1
      exact h2
  · intro h2
    refine ⟨1, v, μ', ?_, h2⟩
    unfold run
    rw [h]
theorem G_none (h : stp shp y pc lv st μ = none) : G y pc lv st μ Q = False := by
  apply propext
  constructor
  · rintro ⟨n, v2, m2, h1, h2⟩
    cases n with
    | zero => cases h1
    | succ n =>
      unfold run at h1
      rw [h] at h1
      cases h1
  · exact False.elim
theorem G_call {z : Nat} {as : List Value} (h : stp shp y pc lv st μ = some (.inr (.inl (z, as, pc', lv', st', μ')))) : G y pc lv st μ Q = G z 0 (ent as) [] μ' (fun v μ2 => G y pc' lv' (v.toList ++ st') μ2 Q) := by
  apply propext
  constructor
  · rintro ⟨n, v2, m2, h1, h2⟩
    cases n with
    | zero => cases h1
    | succ n =>
      unfold run at h1
      rw [h] at h1
      dsimp only at h1
      split at h1
      · cases h1
      · rename_i w m3 hr
        exact ⟨n, w, m3, hr, n, v2, m2, h1, h2⟩
  · rintro ⟨n, w, m3, hr, n2, v2, m2, h1, h2⟩
    refine ⟨max n n2 + 1, v2, m2, ?_, h2⟩
    unfold run
    rw [h]
    have e1 := run_le hr (Nat.le_max_left n n2)
    have e2 := run_le h1 (Nat.le_max_right n n2)
    simp only [e1]
    exact e2
theorem G_imp {Q' : Option Value → mm → Prop} (h : G y pc lv st μ Q) (hQ : ∀ v μ', Q v μ' → Q' v μ') : G y pc lv st μ Q' := by
  obtain ⟨n, v, m2, h1, h2⟩ := h
  exact ⟨n, v, m2, h1, hQ _ _ h2⟩
theorem if_eq {c : Prop} {A B A' B' : Prop} (inst : Decidable c) (hA : A = A') (hB : B = B') : (if c then A else B) = (if c then A' else B') := by rw [hA, hB]
theorem stp_of {i : Instr} (hi : ins y pc = some i) : stp shp y pc lv st μ = ex shp y pc lv st μ i := by unfold stp; rw [hi]
variable {r : List Value}
theorem g_iconst {n : Int} {x : Int32} (hi : ins y pc = some (.iconst n)) (hx : Int32.ofInt n = x) : G y pc lv st μ Q = G y (pc + 1) lv (.int x :: st) μ Q := by subst hx; exact G_step ((stp_of hi).trans rfl)
theorem g_bipush {n : Int} {x : Int32} (hi : ins y pc = some (.bipush n)) (hx : (Int8.ofInt n).toInt32 = x) : G y pc lv st μ Q = G y (pc + 2) lv (.int x :: st) μ Q := by subst hx; exact G_step ((stp_of hi).trans rfl)
theorem g_sipush {n : Int} {x : Int32} (hi : ins y pc = some (.sipush n)) (hx : (Int16.ofInt n).toInt32 = x) : G y pc lv st μ Q = G y (pc + 3) lv (.int x :: st) μ Q := by subst hx; exact G_step ((stp_of hi).trans rfl)
theorem g_lconst {n : Fin 2} {x : Int64} (hi : ins y pc = some (.lconst n)) (hx : Int64.ofNat (n : Nat) = x) : G y pc lv st μ Q = G y (pc + 1) lv (.long x :: st) μ Q := by subst hx; exact G_step ((stp_of hi).trans rfl)
theorem g_ldc {i : Nat} {x : Int32} (hi : ins y pc = some (.ldc i)) (hx : cst (mo y) i = some (.int x)) : G y pc lv st μ Q = G y (pc + 2) lv (.int x :: st) μ Q := G_step ((stp_of hi).trans (by simp only [ex, hx, nx]))
theorem g_ldc_w {i : Nat} {x : Int32} (hi : ins y pc = some (.ldc_w i)) (hx : cst (mo y) i = some (.int x)) : G y pc lv st μ Q = G y (pc + 3) lv (.int x :: st) μ Q := G_step ((stp_of hi).trans (by simp only [ex, hx, nx]))
theorem g_ldc2_w {i : Nat} {x : Int64} (hi : ins y pc = some (.ldc2_w i)) (hx : cst (mo y) i = some (.long x)) : G y pc lv st μ Q = G y (pc + 3) lv (.long x :: st) μ Q := G_step ((stp_of hi).trans (by simp only [ex, hx, nx]))
theorem g_ldcS {i k : Nat} (hi : ins y pc = some (.ldc i)) (hx : cst (mo y) i = some (.ref k)) : G y pc lv st μ Q = G y (pc + 2) lv (.ref k :: st) μ Q := G_step ((stp_of hi).trans (by simp only [ex, hx, nx]))
theorem g_iload_n {k : Fin 4} {x : Int32} (hi : ins y pc = some (.iload_n k)) (hx : lv[(k : Nat)]? = some (some (.int x))) : G y pc lv st μ Q = G y (pc + 1) lv (.int x :: st) μ Q := G_step ((stp_of hi).trans (by simp only [ex, lod, hx, nx, isI, isL, if_true]))
theorem g_iload {k : Nat} {x : Int32} (hi : ins y pc = some (.iload k)) (hx : lv[(k : Nat)]? = some (some (.int x))) : G y pc lv st μ Q = G y (pc + 2) lv (.int x :: st) μ Q := G_step ((stp_of hi).trans (by simp only [ex, lod, hx, nx, isI, isL, if_true]))
theorem g_lload_n {k : Fin 4} {x : Int64} (hi : ins y pc = some (.lload_n k)) (hx : lv[(k : Nat)]? = some (some (.long x))) : G y pc lv st μ Q = G y (pc + 1) lv (.long x :: st) μ Q := G_step ((stp_of hi).trans (by simp only [ex, lod, hx, nx, isI, isL, if_true]))
theorem g_aload_n {k : Fin 4} {x : Nat} (hi : ins y pc = some (.aload_n k)) (hx : lv[(k : Nat)]? = some (some (.ref x))) (hk : decide (x ≠ 1200) = true) : G y pc lv st μ Q = G y (pc + 1) lv (.ref x :: st) μ Q := G_step ((stp_of hi).trans (by simp only [ex, lod, hx, nx]; exact if_pos hk))
theorem g_istore_n {k : Fin 4} {x : Int32} (hi : ins y pc = some (.istore_n k)) (hk : (k : Nat) < mL y) (hn : nolong k lv = true) (hl : sl k (some (.int x)) lv = lv') : G y pc lv (.int x :: r) μ Q = G y (pc + 1) lv' r μ Q := by subst hl; exact G_step ((stp_of hi).trans (by simp only [ex, sto, nx]; rw [if_pos ⟨hk, hn⟩]))
theorem g_istore {k : Nat} {x : Int32} (hi : ins y pc = some (.istore k)) (hk : (k : Nat) < mL y) (hn : nolong k lv = true) (hl : sl k (some (.int x)) lv = lv') : G y pc lv (.int x :: r) μ Q = G y (pc + 2) lv' r μ Q := by subst hl; exact G_step ((stp_of hi).trans (by simp only [ex, sto, nx]; rw [if_pos ⟨hk, hn⟩]))
theorem g_iinc {i : Nat} {n : Int} {x z : Int32} (hi : ins y pc = some (.iinc i n)) (hx : lv[i]? = some (some (.int x))) (hz : Int32.ofInt n = z) (hk : i < mL y) (hn : nolong i lv = true) (hl : sl i (some (.int (x + z))) lv = lv') : G y pc lv st μ Q = G y (pc + 3) lv' st μ Q := by subst hz; subst hl; exact G_step ((stp_of hi).trans (by simp only [ex, hx, nx]; rw [if_pos ⟨hk, hn⟩]))
theorem g_iadd {a b : Int32} (hi : ins y pc = some (.iadd)) : G y pc lv (.int b :: .int a :: r) μ Q = G y (pc + 1) lv (.int (a + b) :: r) μ Q := G_step ((stp_of hi).trans rfl)
theorem g_isub {a b : Int32} (hi : ins y pc = some (.isub)) : G y pc lv (.int b :: .int a :: r) μ Q = G y (pc + 1) lv (.int (a - b) :: r) μ Q := G_step ((stp_of hi).trans rfl)
theorem g_imul {a b : Int32} (hi : ins y pc = some (.imul)) : G y pc lv (.int b :: .int a :: r) μ Q = G y (pc + 1) lv (.int (a * b) :: r) μ Q := G_step ((stp_of hi).trans rfl)
theorem g_iand {a b : Int32} (hi : ins y pc = some (.iand)) : G y pc lv (.int b :: .int a :: r) μ Q = G y (pc + 1) lv (.int (a &&& b) :: r) μ Q := G_step ((stp_of hi).trans rfl)
theorem g_ior {a b : Int32} (hi : ins y pc = some (.ior)) : G y pc lv (.int b :: .int a :: r) μ Q = G y (pc + 1) lv (.int (a ||| b) :: r) μ Q := G_step ((stp_of hi).trans rfl)
theorem g_ixor {a b : Int32} (hi : ins y pc = some (.ixor)) : G y pc lv (.int b :: .int a :: r) μ Q = G y (pc + 1) lv (.int (a ^^^ b) :: r) μ Q := G_step ((stp_of hi).trans rfl)
theorem g_ishl {a b : Int32} (hi : ins y pc = some (.ishl)) : G y pc lv (.int b :: .int a :: r) μ Q = G y (pc + 1) lv (.int (a <<< (b &&& 31)) :: r) μ Q := G_step ((stp_of hi).trans rfl)
theorem g_ishr {a b : Int32} (hi : ins y pc = some (.ishr)) : G y pc lv (.int b :: .int a :: r) μ Q = G y (pc + 1) lv (.int (a >>> (b &&& 31)) :: r) μ Q := G_step ((stp_of hi).trans rfl)
theorem g_iushr {a b : Int32} (hi : ins y pc = some (.iushr)) : G y pc lv (.int b :: .int a :: r) μ Q = G y (pc + 1) lv (.int ((a.toUInt32 >>> (b.toUInt32 &&& Int32.toUInt32 31)).toInt32) :: r) μ Q := G_step ((stp_of hi).trans rfl)
theorem g_idiv {a b : Int32} (hi : ins y pc = some (.idiv)) (hb : ¬ b = 0) : G y pc lv (.int b :: .int a :: r) μ Q = G y (pc + 1) lv (.int (a / b) :: r) μ Q := G_step ((stp_of hi).trans (by simp only [ex, if_neg hb, nx]))
theorem g_irem {a b : Int32} (hi : ins y pc = some (.irem)) (hb : ¬ b = 0) : G y pc lv (.int b :: .int a :: r) μ Q = G y (pc + 1) lv (.int (a - a / b * b) :: r) μ Q := G_step ((stp_of hi).trans (by simp only [ex, if_neg hb, nx]))
theorem g_ineg {a : Int32} (hi : ins y pc = some (.ineg)) : G y pc lv (.int a :: r) μ Q = G y (pc + 1) lv (.int (-a) :: r) μ Q := G_step ((stp_of hi).trans rfl)
theorem g_i2l {a : Int32} (hi : ins y pc = some (.i2l)) : G y pc lv (.int a :: r) μ Q = G y (pc + 1) lv (.long a.toInt64 :: r) μ Q := G_step ((stp_of hi).trans rfl)
theorem g_i2c {a : Int32} (hi : ins y pc = some (.i2c)) : G y pc lv (.int a :: r) μ Q = G y (pc + 1) lv (.int (a.toUInt32 % 65536).toInt32 :: r) μ Q := G_step ((stp_of hi).trans rfl)
theorem g_l2i {a : Int64} (hi : ins y pc = some (.l2i)) : G y pc lv (.long a :: r) μ Q = G y (pc + 1) lv (.int a.toInt32 :: r) μ Q := G_step ((stp_of hi).trans rfl)
theorem g_ladd {a b : Int64} (hi : ins y pc = some (.ladd)) : G y pc lv (.long b :: .long a :: r) μ Q = G y (pc + 1) lv (.long (a + b) :: r) μ Q := G_step ((stp_of hi).trans rfl)
theorem g_lsub {a b : Int64} (hi : ins y pc = some (.lsub)) : G y pc lv (.long b :: .long a :: r) μ Q = G y (pc + 1) lv (.long (a - b) :: r) μ Q := G_step ((stp_of hi).trans rfl)
theorem g_lmul {a b : Int64} (hi : ins y pc = some (.lmul)) : G y pc lv (.long b :: .long a :: r) μ Q = G y (pc + 1) lv (.long (a * b) :: r) μ Q := G_step ((stp_of hi).trans rfl)
theorem g_land {a b : Int64} (hi : ins y pc = some (.land)) : G y pc lv (.long b :: .long a :: r) μ Q = G y (pc + 1) lv (.long (a &&& b) :: r) μ Q := G_step ((stp_of hi).trans rfl)
theorem g_lor {a b : Int64} (hi : ins y pc = some (.lor)) : G y pc lv (.long b :: .long a :: r) μ Q = G y (pc + 1) lv (.long (a ||| b) :: r) μ Q := G_step ((stp_of hi).trans rfl)
theorem g_lshl {a : Int64} {b : Int32} (hi : ins y pc = some (.lshl)) : G y pc lv (.int b :: .long a :: r) μ Q = G y (pc + 1) lv (.long (a <<< (b.toInt64 &&& 63)) :: r) μ Q := G_step ((stp_of hi).trans rfl)
theorem g_lshr {a : Int64} {b : Int32} (hi : ins y pc = some (.lshr)) : G y pc lv (.int b :: .long a :: r) μ Q = G y (pc + 1) lv (.long (a >>> (b.toInt64 &&& 63)) :: r) μ Q := G_step ((stp_of hi).trans rfl)
theorem g_lcmp {a b : Int64} (hi : ins y pc = some (.lcmp)) : G y pc lv (.long b :: .long a :: r) μ Q = G y (pc + 1) lv (.int (lg_cmp a b) :: r) μ Q := G_step ((stp_of hi).trans rfl)
theorem g_dupI {a : Int32} (hi : ins y pc = some (.dup)) : G y pc lv (.int a :: r) μ Q = G y (pc + 1) lv (.int a :: .int a :: r) μ Q := G_step ((stp_of hi).trans rfl)
theorem g_dupR {a : Nat} (hi : ins y pc = some (.dup)) : G y pc lv (.ref a :: r) μ Q = G y (pc + 1) lv (.ref a :: .ref a :: r) μ Q := G_step ((stp_of hi).trans rfl)
theorem g_pop {a : Int32} (hi : ins y pc = some (.pop)) : G y pc lv (.int a :: r) μ Q = G y (pc + 1) lv r μ Q := G_step ((stp_of hi).trans rfl)
theorem jck_of {off : Int} {tgt : Nat} {f : Nat → Option mR} (ht : (pc : Int) + off = (tgt : Int)) : jck pc off f = f tgt := by
  unfold jck
  rw [ht]
  simp
theorem g_goto {off : Int} {tgt : Nat} (hi : ins y pc = some (.goto off)) (ht : (pc : Int) + off = (tgt : Int)) : G y pc lv st μ Q = G y tgt lv st μ Q := G_step ((stp_of hi).trans (by simp only [ex, jmp]; rw [jck_of ht, nx]))
theorem g_if_eq {off : Int} {tgt : Nat} {x : Int32} (hi : ins y pc = some (.ifCond .eq off)) (ht : (pc : Int) + off = (tgt : Int)) : G y pc lv (.int x :: r) μ Q = (if x = 0 then G y tgt lv r μ Q else G y (pc + 3) lv r μ Q) := by
  split
  · rename_i hc; exact G_step ((stp_of hi).trans (by simp only [ex]; rw [jck_of ht, if_pos hc, nx]))
  · rename_i hc; exact G_step ((stp_of hi).trans (by simp only [ex]; rw [jck_of ht, if_neg hc, nx]))
theorem g_if_ne {off : Int} {tgt : Nat} {x : Int32} (hi : ins y pc = some (.ifCond .ne off)) (ht : (pc : Int) + off = (tgt : Int)) : G y pc lv (.int x :: r) μ Q = (if x = 0 then G y (pc + 3) lv r μ Q else G y tgt lv r μ Q) := by
  split
  · rename_i hc; exact G_step ((stp_of hi).trans (by simp only [ex]; rw [jck_of ht, if_pos hc, nx]))
  · rename_i hc; exact G_step ((stp_of hi).trans (by simp only [ex]; rw [jck_of ht, if_neg hc, nx]))
theorem g_if_lt {off : Int} {tgt : Nat} {x : Int32} (hi : ins y pc = some (.ifCond .lt off)) (ht : (pc : Int) + off = (tgt : Int)) : G y pc lv (.int x :: r) μ Q = (if x < 0 then G y tgt lv r μ Q else G y (pc + 3) lv r μ Q) := by
  split
  · rename_i hc; exact G_step ((stp_of hi).trans (by simp only [ex]; rw [jck_of ht, if_pos hc, nx]))
  · rename_i hc; exact G_step ((stp_of hi).trans (by simp only [ex]; rw [jck_of ht, if_neg hc, nx]))
theorem g_if_ge {off : Int} {tgt : Nat} {x : Int32} (hi : ins y pc = some (.ifCond .ge off)) (ht : (pc : Int) + off = (tgt : Int)) : G y pc lv (.int x :: r) μ Q = (if 0 ≤ x then G y tgt lv r μ Q else G y (pc + 3) lv r μ Q) := by
  split
  · rename_i hc; exact G_step ((stp_of hi).trans (by simp only [ex]; rw [jck_of ht, if_pos hc, nx]))
  · rename_i hc; exact G_step ((stp_of hi).trans (by simp only [ex]; rw [jck_of ht, if_neg hc, nx]))
theorem g_if_gt {off : Int} {tgt : Nat} {x : Int32} (hi : ins y pc = some (.ifCond .gt off)) (ht : (pc : Int) + off = (tgt : Int)) : G y pc lv (.int x :: r) μ Q = (if 0 < x then G y tgt lv r μ Q else G y (pc + 3) lv r μ Q) := by
  split
  · rename_i hc; exact G_step ((stp_of hi).trans (by simp only [ex]; rw [jck_of ht, if_pos hc, nx]))
  · rename_i hc; exact G_step ((stp_of hi).trans (by simp only [ex]; rw [jck_of ht, if_neg hc, nx]))
theorem g_if_le {off : Int} {tgt : Nat} {x : Int32} (hi : ins y pc = some (.ifCond .le off)) (ht : (pc : Int) + off = (tgt : Int)) : G y pc lv (.int x :: r) μ Q = (if x ≤ 0 then G y tgt lv r μ Q else G y (pc + 3) lv r μ Q) := by
  split
  · rename_i hc; exact G_step ((stp_of hi).trans (by simp only [ex]; rw [jck_of ht, if_pos hc, nx]))
  · rename_i hc; exact G_step ((stp_of hi).trans (by simp only [ex]; rw [jck_of ht, if_neg hc, nx]))
theorem g_icmp_eq {off : Int} {tgt : Nat} {a b : Int32} (hi : ins y pc = some (.if_icmp .eq off)) (ht : (pc : Int) + off = (tgt : Int)) : G y pc lv (.int b :: .int a :: r) μ Q = (if a = b then G y tgt lv r μ Q else G y (pc + 3) lv r μ Q) := by
  split
  · rename_i hc; exact G_step ((stp_of hi).trans (by simp only [ex]; rw [jck_of ht, if_pos hc, nx]))
  · rename_i hc; exact G_step ((stp_of hi).trans (by simp only [ex]; rw [jck_of ht, if_neg hc, nx]))
theorem g_icmp_ne {off : Int} {tgt : Nat} {a b : Int32} (hi : ins y pc = some (.if_icmp .ne off)) (ht : (pc : Int) + off = (tgt : Int)) : G y pc lv (.int b :: .int a :: r) μ Q = (if a = b then G y (pc + 3) lv r μ Q else G y tgt lv r μ Q) := by
  split
  · rename_i hc; exact G_step ((stp_of hi).trans (by simp only [ex]; rw [jck_of ht, if_pos hc, nx]))
  · rename_i hc; exact G_step ((stp_of hi).trans (by simp only [ex]; rw [jck_of ht, if_neg hc, nx]))
theorem g_icmp_lt {off : Int} {tgt : Nat} {a b : Int32} (hi : ins y pc = some (.if_icmp .lt off)) (ht : (pc : Int) + off = (tgt : Int)) : G y pc lv (.int b :: .int a :: r) μ Q = (if a < b then G y tgt lv r μ Q else G y (pc + 3) lv r μ Q) := by
  split
  · rename_i hc; exact G_step ((stp_of hi).trans (by simp only [ex]; rw [jck_of ht, if_pos hc, nx]))
  · rename_i hc; exact G_step ((stp_of hi).trans (by simp only [ex]; rw [jck_of ht, if_neg hc, nx]))
theorem g_icmp_ge {off : Int} {tgt : Nat} {a b : Int32} (hi : ins y pc = some (.if_icmp .ge off)) (ht : (pc : Int) + off = (tgt : Int)) : G y pc lv (.int b :: .int a :: r) μ Q = (if b ≤ a then G y tgt lv r μ Q else G y (pc + 3) lv r μ Q) := by
  split
  · rename_i hc; exact G_step ((stp_of hi).trans (by simp only [ex]; rw [jck_of ht, if_pos hc, nx]))
  · rename_i hc; exact G_step ((stp_of hi).trans (by simp only [ex]; rw [jck_of ht, if_neg hc, nx]))
theorem g_icmp_gt {off : Int} {tgt : Nat} {a b : Int32} (hi : ins y pc = some (.if_icmp .gt off)) (ht : (pc : Int) + off = (tgt : Int)) : G y pc lv (.int b :: .int a :: r) μ Q = (if b < a then G y tgt lv r μ Q else G y (pc + 3) lv r μ Q) := by
  split
  · rename_i hc; exact G_step ((stp_of hi).trans (by simp only [ex]; rw [jck_of ht, if_pos hc, nx]))
  · rename_i hc; exact G_step ((stp_of hi).trans (by simp only [ex]; rw [jck_of ht, if_neg hc, nx]))
theorem g_icmp_le {off : Int} {tgt : Nat} {a b : Int32} (hi : ins y pc = some (.if_icmp .le off)) (ht : (pc : Int) + off = (tgt : Int)) : G y pc lv (.int b :: .int a :: r) μ Q = (if a ≤ b then G y tgt lv r μ Q else G y (pc + 3) lv r μ Q) := by
  split
  · rename_i hc; exact G_step ((stp_of hi).trans (by simp only [ex]; rw [jck_of ht, if_pos hc, nx]))
  · rename_i hc; exact G_step ((stp_of hi).trans (by simp only [ex]; rw [jck_of ht, if_neg hc, nx]))
theorem g_tableOut {d lo up : Int} {offs : Array Int} {x : Int32} {tgt : Nat} (hi : ins y pc = some (.tableswitch d lo up offs)) (h : x.toInt < lo ∨ up < x.toInt) (ht : (pc : Int) + d = (tgt : Int)) : G y pc lv (.int x :: r) μ Q = G y tgt lv r μ Q := G_step ((stp_of hi).trans (by simp only [ex, jmp]; rw [if_pos h, jck_of ht, nx]))
theorem g_tableIn {d lo up : Int} {offs : Array Int} {x : Int32} {off : Int} {tgt : Nat} (hi : ins y pc = some (.tableswitch d lo up offs)) (h : ¬ (x.toInt < lo ∨ up < x.toInt)) (ho : offs[(x.toInt - lo).toNat]? = some off) (ht : (pc : Int) + off = (tgt : Int)) : G y pc lv (.int x :: r) μ Q = G y tgt lv r μ Q := G_step ((stp_of hi).trans (by simp only [ex, jmp]; rw [if_neg h]; simp only [ho]; rw [jck_of ht, nx]))
theorem g_lookup {d : Int} {ps : Array (Int × Int)} {x : Int32} {off : Int} {tgt : Nat} (hi : ins y pc = some (.lookupswitch d ps)) (hp : (ps.toList.zip (ps.toList.drop 1)).all (fun (a, next) => a.1 < next.1) = true) (ho : Op.lookupswitch.offset ps.toList d x.toInt = off) (ht : (pc : Int) + off = (tgt : Int)) : G y pc lv (.int x :: r) μ Q = G y tgt lv r μ Q := G_step ((stp_of hi).trans (by simp only [ex, jmp]; rw [if_pos hp, ho, jck_of ht, nx]))
theorem g_getI {i k ci j n : Nat} {s0 : List Nat} (hi : ins y pc = some (.getfield i)) (hf : fld (mo y) i = some (ci, j)) (hs : shp[k]? = some (ci, n, s0)) (hc : ci < 11) (hj : s0[j]? = some 0) : G y pc lv (.ref k :: r) μ Q = G y (pc + 3) lv (.int (μ.1 k j) :: r) μ Q := G_step ((stp_of hi).trans (by
  have hk : (k : Nat) < 1000 := Nat.lt_of_lt_of_le (shp_lt shp_okS hs) (by decide)
  simp only [ex, gfd, hf, hs, hj, nx, if_pos hk, hc, and_self, if_true]))
theorem g_getL {i k ci j n : Nat} {s0 : List Nat} (hi : ins y pc = some (.getfield i)) (hf : fld (mo y) i = some (ci, j)) (hs : shp[k]? = some (ci, n, s0)) (hc : ci < 11) (hj : s0[j]? = some 1) : G y pc lv (.ref k :: r) μ Q = G y (pc + 3) lv (.long μ.2 :: r) μ Q := G_step ((stp_of hi).trans (by
  have hk : (k : Nat) < 1000 := Nat.lt_of_lt_of_le (shp_lt shp_okS hs) (by decide)
  simp only [ex, gfd, hf, hs, hj, nx, if_pos hk, hc, and_self, if_true]))
theorem g_getR {i k ci j n q : Nat} {s0 : List Nat} (hi : ins y pc = some (.getfield i)) (hf : fld (mo y) i = some (ci, j)) (hs : shp[k]? = some (ci, n, s0)) (hc : ci < 11) (hj : s0[j]? = some (q + 2)) : G y pc lv (.ref k :: r) μ Q = G y (pc + 3) lv (.ref q :: r) μ Q := G_step ((stp_of hi).trans (by
  have hk : (k : Nat) < 1000 := Nat.lt_of_lt_of_le (shp_lt shp_okS hs) (by decide)
  simp only [ex, gfd, hf, hs, hj, nx, if_pos hk, hc, and_self, if_true]))
theorem g_getS {i k : Nat} {v : Value} (hi : ins y pc = some (.getfield i)) (hk : ¬ k < 1000) (hv : gst y i k = some v) : G y pc lv (.ref k :: r) μ Q = G y (pc + 3) lv (v :: r) μ Q := G_step ((stp_of hi).trans (by simp only [ex, if_neg hk, hv, nx]))
theorem g_putI {i k ci j n : Nat} {s0 : List Nat} {x : Int32} (hi : ins y pc = some (.putfield i)) (hf : fld (mo y) i = some (ci, j)) (hs : shp[k]? = some (ci, n, s0)) (hc : ci < 11) (hj : s0[j]? = some 0) : G y pc lv (.int x :: .ref k :: r) μ Q = G y (pc + 3) lv r (mup μ k j x) Q := G_step ((stp_of hi).trans (by
  simp only [ex, hf, hs, nx]; rw [if_pos ⟨trivial, hc, hj⟩]))
theorem g_putL {i k ci j n : Nat} {s0 : List Nat} {x : Int64} (hi : ins y pc = some (.putfield i)) (hf : fld (mo y) i = some (ci, j)) (hs : shp[k]? = some (ci, n, s0)) (hc : ci < 11) (hj : s0[j]? = some 1) : G y pc lv (.long x :: .ref k :: r) μ Q = G y (pc + 3) lv r (μ.1, x) Q := G_step ((stp_of hi).trans (by
  simp only [ex, hf, hs, nx]; rw [if_pos ⟨trivial, hc, hj⟩]))
theorem g_iaload {k n : Nat} {s0 : List Nat} {i : Int32} (hi : ins y pc = some .iaload) (hs : shp[k]? = some (100, n, s0)) : G y pc lv (.int i :: .ref k :: r) μ Q = (if i < 0 ∨ n ≤ i.toNatClampNeg then False else G y (pc + 1) lv (.int (μ.1 k i.toNatClampNeg) :: r) μ Q) := by
  have hk : ¬ (k : Nat) = 999 := fun z => absurd (shp_lt shp_okS hs) (by rw [z]; decide)
  split
  · rename_i hc; exact G_none ((stp_of hi).trans (by simp only [ex, if_neg hk, hs, if_true, if_pos hc]))
  · rename_i hc; exact G_step ((stp_of hi).trans (by simp only [ex, if_neg hk, hs, if_true, if_neg hc, nx]))
theorem g_iastore {k n : Nat} {s0 : List Nat} {i x : Int32} (hi : ins y pc = some .iastore) (hs : shp[k]? = some (100, n, s0)) : G y pc lv (.int x :: .int i :: .ref k :: r) μ Q = (if i < 0 ∨ n ≤ i.toNatClampNeg then False else G y (pc + 1) lv r (mup μ k i.toNatClampNeg x) Q) := by
  split
  · rename_i hc; exact G_none ((stp_of hi).trans (by simp only [ex, hs, if_true, if_pos hc]))
  · rename_i hc; exact G_step ((stp_of hi).trans (by simp only [ex, hs, if_true, if_neg hc, nx]))
theorem g_baload {k n : Nat} {s0 : List Nat} {i : Int32} (hi : ins y pc = some .baload) (hs : shp[k]? = some (101, n, s0)) : G y pc lv (.int i :: .ref k :: r) μ Q = (if i < 0 ∨ n ≤ i.toNatClampNeg then False else G y (pc + 1) lv (.int (μ.1 k i.toNatClampNeg) :: r) μ Q) := by
  have hk : (k : Nat) < 1000 := Nat.lt_of_lt_of_le (shp_lt shp_okS hs) (by decide)
  split
  · rename_i hc; exact G_none ((stp_of hi).trans (by simp only [ex, if_pos hk, hs, if_true, if_pos hc]))
  · rename_i hc; exact G_step ((stp_of hi).trans (by simp only [ex, if_pos hk, hs, if_true, if_neg hc, nx]))
theorem g_baloadS {k : Nat} {i : Int32} (hi : ins y pc = some .baload) (hk : 1100 ≤ k ∧ k < 1107) : G y pc lv (.int i :: .ref k :: r) μ Q = (if i < 0 ∨ jsl.getD (k - 1100) 0 ≤ i.toNatClampNeg then False else G y (pc + 1) lv (.int ((jsb.getD (k - 1100) []).getD i.toNatClampNeg 0) :: r) μ Q) := by
  have hk2 : ¬ (k : Nat) < 1000 := by omega
  split
  · rename_i hc; exact G_none ((stp_of hi).trans (by simp only [ex, if_neg hk2, if_pos hk, if_pos hc]))
  · rename_i hc; exact G_step ((stp_of hi).trans (by simp only [ex, if_neg hk2, if_pos hk, if_neg hc, nx]))
theorem g_bastore {k n : Nat} {s0 : List Nat} {i x : Int32} (hi : ins y pc = some .bastore) (hs : shp[k]? = some (101, n, s0)) : G y pc lv (.int x :: .int i :: .ref k :: r) μ Q = (if i < 0 ∨ n ≤ i.toNatClampNeg then False else G y (pc + 1) lv r (mup μ k i.toNatClampNeg (vp_nar .boolean x)) Q) := by
  split
  · rename_i hc; exact G_none ((stp_of hi).trans (by simp only [ex, hs, if_true, if_pos hc]))
  · rename_i hc; exact G_step ((stp_of hi).trans (by simp only [ex, hs, if_true, if_neg hc, nx]))
theorem g_aaload {i : Int32} (hi : ins y pc = some .aaload) : G y pc lv (.int i :: .ref 16 :: r) μ Q = (if i < 0 ∨ 10 ≤ i.toNatClampNeg then False else G y (pc + 1) lv (.ref (17 + i.toNatClampNeg) :: r) μ Q) := by
  have hs : shp[16]? = some (102, 10, [17, 18, 19, 20, 21, 22, 23, 24, 25, 26]) := rfl
  split
  · rename_i hc; exact G_none ((stp_of hi).trans (by simp only [ex, hs, if_true, if_pos hc]))
  · rename_i hc
    have hq : ([17, 18, 19, 20, 21, 22, 23, 24, 25, 26] : List Nat)[i.toNatClampNeg]? = some (17 + i.toNatClampNeg) := by
      have h9 : i.toNatClampNeg < 10 := Nat.not_le.mp (fun z => hc (Or.inr z))
      generalize i.toNatClampNeg = q at h9
      rcases (show q = 0 ∨ q = 1 ∨ q = 2 ∨ q = 3 ∨ q = 4 ∨ q = 5 ∨ q = 6 ∨ q = 7 ∨ q = 8 ∨ q = 9 by omega) with rfl | rfl | rfl | rfl | rfl | rfl | rfl | rfl | rfl | rfl <;> rfl
    exact G_step ((stp_of hi).trans (by simp only [ex, hs, if_true, if_neg hc, hq, nx]))
theorem shp_row {q : Nat} (h : q < 10) : shp[17 + q]? = some (100, 10, []) := by
  rcases (show q = 0 ∨ q = 1 ∨ q = 2 ∨ q = 3 ∨ q = 4 ∨ q = 5 ∨ q = 6 ∨ q = 7 ∨ q = 8 ∨ q = 9 by omega) with rfl | rfl | rfl | rfl | rfl | rfl | rfl | rfl | rfl | rfl <;> rfl
theorem g_scrL (hi : ins y pc = some .arraylength) (hm : mo y = 11) : G y pc lv (.ref 999 :: r) μ Q = G y (pc + 1) lv (.int (μ.1 998 0) :: r) μ Q := G_step ((stp_of hi).trans (by simp only [ex, if_true, hm, nx]))
theorem g_scr {i : Int32} (hi : ins y pc = some .iaload) (hm : mo y = 11) : G y pc lv (.int i :: .ref 999 :: r) μ Q = (if i < 0 ∨ (μ.1 998 0).toNatClampNeg ≤ i.toNatClampNeg then False else G y (pc + 1) lv (.int (μ.1 999 i.toNatClampNeg) :: r) μ Q) := by
  split
  · rename_i hc; exact G_none ((stp_of hi).trans (by simp only [ex, if_true, hm, if_pos hc]))
  · rename_i hc; exact G_step ((stp_of hi).trans (by simp only [ex, if_true, hm, if_neg hc, nx]))
theorem g_alenS {k : Nat} (hi : ins y pc = some .arraylength) (h9 : ¬ k = 999) (hk : 1100 ≤ k ∧ k < 1107) : G y pc lv (.ref k :: r) μ Q = G y (pc + 1) lv (.int (Int32.ofNat (jsl.getD (k - 1100) 0)) :: r) μ Q := G_step ((stp_of hi).trans (by simp only [ex, if_neg h9, if_pos hk, nx]))
theorem g_gets1 (hi : ins y pc = some (.getstatic 38)) (hm : mo y = 20) : G y pc lv st μ Q = G y (pc + 3) lv (.int 1 :: st) μ Q := G_step ((stp_of hi).trans (by simp only [ex, hm, and_self, if_true, nx]))
theorem g_gets2 (hi : ins y pc = some (.getstatic 1053)) (hm : mo y = 20) : G y pc lv st μ Q = G y (pc + 3) lv (.ref 1200 :: st) μ Q := G_step ((stp_of hi).trans (by simp only [ex, hm, nx]; rfl))
theorem g_cV {i z b : Nat} {as : List Value} (hi : ins y pc = some (.invokevirtual i)) (hk : lnk (mo y) i = some (0, z)) (hd : st.drop (na z) = .ref b :: r) (ha : .ref b :: (st.take (na z)).reverse = as) (hok : (okr shp z b && okc y z as r) = true) : G y pc lv st μ Q = G z 0 (ent as) [] μ (fun v μ2 => G y (pc + 3) lv (v.toList ++ r) μ2 Q) := by subst ha; exact G_call ((stp_of hi).trans (by simp only [ex, cV, hk, hd, hok, if_true]))
theorem g_cS {i z : Nat} {as : List Value} (hi : ins y pc = some (.invokestatic i)) (hk : lnk (mo y) i = some (1, z)) (hd : st.drop (na z) = r) (ha : (st.take (na z)).reverse = as) (hok : (decide (na z ≤ st.length) && okc y z as r) = true) : G y pc lv st μ Q = G z 0 (ent as) [] μ (fun v μ2 => G y (pc + 3) lv (v.toList ++ r) μ2 Q) := by subst ha; subst hd; exact G_call ((stp_of hi).trans (by simp only [ex, cS, hk, hok, if_true]))
theorem g_iret {v : Int32} {ty : FieldType} (hi : ins y pc = some .ireturn) (hm : mr y = some ty) (hn : narrow ty (.int v) = .int v) : G y pc lv [.int v] μ Q = Q (some (.int v)) μ := G_ret ((stp_of hi).trans (by simp only [ex, hm, hn, if_true]))
theorem g_ret (hi : ins y pc = some .return_) (hm : mr y = none) : G y pc lv [] μ Q = Q none μ := G_ret ((stp_of hi).trans (by simp only [ex, hm, if_true]))
end GL
