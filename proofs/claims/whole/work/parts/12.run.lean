/-! all steps; calls; ends -/
theorem ex_call {sh : List (Nat × Nat × List Nat)} {y pc : Nat} {lv : List (Option Value)} {st : List Value} {μ : mm} {i : Instr} {z pc' : Nat} {as : List Value} {lv' : List (Option Value)} {st' : List Value} {μ' : mm} (h : ex sh y pc lv st μ i = some (.inr (.inl (z, as, pc', lv', st', μ')))) :
    (∃ idx b, i = .invokevirtual idx ∧ lnk (mo y) idx = some (0, z) ∧ as = .ref b :: (st.take (na z)).reverse ∧ st.drop (na z) = .ref b :: st' ∧ okr sh z b = true ∧ okc y z as st' = true ∧ pc' = pc + 3 ∧ lv' = lv ∧ μ' = μ) ∨
    (∃ idx, i = .invokestatic idx ∧ lnk (mo y) idx = some (1, z) ∧ as = (st.take (na z)).reverse ∧ st' = st.drop (na z) ∧ na z ≤ st.length ∧ okc y z as st' = true ∧ pc' = pc + 3 ∧ lv' = lv ∧ μ' = μ) := by
  unfold ex at h
  split at h
  all_goals (try (simp only [nx, jmp, jck, lod, sto] at h))
  all_goals (try (repeat' split at h))
  all_goals (try (cases h; done))
  · left
    rename_i idx
    unfold cV at h
    split at h
    · rename_i z1 hz
      split at h
      · rename_i b rest hb
        split at h
        · rename_i hok
          rw [Bool.and_eq_true] at hok
          cases h
          exact ⟨idx, b, rfl, hz, rfl, hb, hok.1, hok.2, rfl, rfl, rfl⟩
        · cases h
      · cases h
    · cases h
  · right
    rename_i idx
    unfold cS at h
    split at h
    · rename_i z1 hz
      split at h
      · rename_i hok
        rw [Bool.and_eq_true] at hok
        cases h
        exact ⟨idx, rfl, hz, rfl, rfl, of_decide_eq_true hok.1, hok.2, rfl, rfl, rfl⟩
      · cases h
    · cases h
theorem ex_ret {sh : List (Nat × Nat × List Nat)} {y pc : Nat} {lv : List (Option Value)} {st : List Value} {μ : mm} {i : Instr} {v : Option Value} {μ' : mm} (h : ex sh y pc lv st μ i = some (.inr (.inr (v, μ')))) :
    μ' = μ ∧ ((i = .ireturn ∧ ∃ x ty, st = [.int x] ∧ v = some (.int x) ∧ mr y = some ty ∧ narrow ty (.int x) = .int x) ∨ (i = .return_ ∧ st = [] ∧ v = none ∧ mr y = none)) := by
  unfold ex at h
  split at h
  all_goals (try (simp only [nx, jmp, jck, lod, sto, cV, cS] at h))
  all_goals (try (repeat' split at h))
  all_goals (try (cases h; done))
  · rename_i x x9 ty hty hn
    cases h
    exact ⟨rfl, Or.inl ⟨rfl, x, ty, rfl, rfl, hty, hn⟩⟩
  · rename_i hn
    cases h
    exact ⟨rfl, Or.inr ⟨rfl, rfl, rfl, hn⟩⟩
theorem mup_ne {μ : mm} {q j k : Nat} {x : Int32} (h : k ≠ q) : (mup μ q j x).1 k = μ.1 k := if_neg h
theorem ex_keep {sh : List (Nat × Nat × List Nat)} {y pc : Nat} {lv : List (Option Value)} {st : List Value} {μ : mm} {i : Instr} {t : mS} (h : ex sh y pc lv st μ i = some (.inl t)) : ∀ k, sh.length ≤ k → t.2.2.2.1 k = μ.1 k := by
  intro k hk
  unfold ex at h
  split at h
  all_goals (try (simp only [nx, jmp, jck, lod, sto, cV, cS] at h))
  all_goals (try (repeat' split at h))
  all_goals (try (cases h; done))
  all_goals (try (cases h; rfl))
  all_goals (cases h)
  all_goals (exact mup_ne (fun z => by subst z; have h8 := (List.getElem?_eq_some_iff.mp (by assumption : sh[_]? = some _)).1; exact absurd hk (Nat.not_le.mpr h8)))
theorem stp_keep {sh : List (Nat × Nat × List Nat)} {y pc : Nat} {lv : List (Option Value)} {st : List Value} {μ : mm} {t : mS} (h : stp sh y pc lv st μ = some (.inl t)) : ∀ k, sh.length ≤ k → t.2.2.2.1 k = μ.1 k := by
  unfold stp at h
  split at h
  · exact ex_keep h
  · cases h
theorem run_keep {sh : List (Nat × Nat × List Nat)} : ∀ (n y pc : Nat) (lv : List (Option Value)) (st : List Value) (μ : mm) (v : Option Value) (μ' : mm), run sh n y pc lv st μ = some (v, μ') → ∀ k, sh.length ≤ k → μ'.1 k = μ.1 k
  | 0, _, _, _, _, _, _, _, h => by cases h
  | n + 1, y, pc, lv, st, μ, v, μ', h => by
    intro k hk
    unfold run at h
    split at h
    · cases h
    · rename_i a b c d hs
      rw [run_keep n y a b c d v μ' h k hk, stp_keep hs k hk]
    · rename_i z as a b c d hs
      have hd : d = μ := by
        unfold stp at hs
        split at hs
        · rcases ex_call hs with ⟨_, _, _, _, _, _, _, _, _, _, h9⟩ | ⟨_, _, _, _, _, _, _, _, _, h9⟩ <;> exact h9
        · cases hs
      split at h
      · cases h
      · rename_i w μ2 hr
        rw [run_keep n y a b _ μ2 v μ' h k hk, run_keep n z 0 _ _ d w μ2 hr k hk, hd]
    · rename_i r hs
      cases h
      unfold stp at hs
      split at hs
      · rw [(ex_ret hs).1]
      · cases hs
section SIM4
variable {sh : List (Nat × Nat × List Nat)}
variable {p : Program} {l : Launch} {e : Env} {R : Room} {s : State} {m : MethodId} {args : Array Value} {below : List Frame} {meth : Method} {c : Code} {H : Heap} {locs : List Loc} {cells slots : Nat} {Q : State → Prop}
variable {D : va_G} {cI cZ cG : ClassId} {ad : Nat → Nat} {fm : Value} {A : Nat → Prop} {y pc : Nat} {lv : List (Option Value)} {st : List Value} {μ : mm} {ls : Array Slot} {t : mS}
theorem step_sim (hsh : okS sh = true) (C : Cx p s m args meth c R y) (E : Ev D cI cZ cG ad fm A s) (hX : mo y = 11 → SC ad A s μ) (h : stp sh y pc lv st μ = some (.inl t)) (hl : LV ad fm y ls lv) (hw : Wo sh D cI cZ cG ad A s H locs μ) (k : Kn sh p l e R s m args below meth c cells slots Q D cI cZ cG ad fm A y t) : W p l e R s m args below meth c H locs cells slots Q (F0 m pc ls (st.map (tr ad fm))) := by
  unfold stp at h
  cases hi : ins y pc with
  | none => rw [hi] at h; cases h
  | some i =>
    rw [hi] at h
    cases i with
    | iconst n => exact sm_iconst C E hX hi h hl hw k
    | bipush n => exact sm_bipush C E hX hi h hl hw k
    | sipush n => exact sm_sipush C E hX hi h hl hw k
    | lconst n => exact sm_lconst C E hX hi h hl hw k
    | iadd  => exact sm_iadd C E hX hi h hl hw k
    | isub  => exact sm_isub C E hX hi h hl hw k
    | imul  => exact sm_imul C E hX hi h hl hw k
    | iand  => exact sm_iand C E hX hi h hl hw k
    | ior  => exact sm_ior C E hX hi h hl hw k
    | ixor  => exact sm_ixor C E hX hi h hl hw k
    | ishl  => exact sm_ishl C E hX hi h hl hw k
    | ishr  => exact sm_ishr C E hX hi h hl hw k
    | ladd  => exact sm_ladd C E hX hi h hl hw k
    | lsub  => exact sm_lsub C E hX hi h hl hw k
    | lmul  => exact sm_lmul C E hX hi h hl hw k
    | land  => exact sm_land C E hX hi h hl hw k
    | lor  => exact sm_lor C E hX hi h hl hw k
    | ineg  => exact sm_ineg C E hX hi h hl hw k
    | i2l  => exact sm_i2l C E hX hi h hl hw k
    | i2c  => exact sm_i2c C E hX hi h hl hw k
    | l2i  => exact sm_l2i C E hX hi h hl hw k
    | iushr  => exact sm_iushr C E hX hi h hl hw k
    | lshl  => exact sm_lshl C E hX hi h hl hw k
    | lshr  => exact sm_lshr C E hX hi h hl hw k
    | idiv  => exact sm_idiv C E hX hi h hl hw k
    | irem  => exact sm_irem C E hX hi h hl hw k
    | lcmp  => exact sm_lcmp C E hX hi h hl hw k
    | iload_n n => exact sm_iload_n C E hX hi h hl hw k
    | iload n => exact sm_iload C E hX hi h hl hw k
    | lload_n n => exact sm_lload_n C E hX hi h hl hw k
    | aload_n n => exact sm_aload_n C E hX hi h hl hw k
    | istore_n n => exact sm_istore_n C E hX hi h hl hw k
    | istore n => exact sm_istore C E hX hi h hl hw k
    | iinc i n => exact sm_iinc C E hX hi h hl hw k
    | dup  => exact sm_dup C E hX hi h hl hw k
    | pop  => exact sm_pop C E hX hi h hl hw k
    | goto off => exact sm_goto C E hX hi h hl hw k
    | tableswitch d lo up offs => exact sm_tableswitch C E hX hi h hl hw k
    | lookupswitch d ps => exact sm_lookupswitch C E hX hi h hl hw k
    | ldc2_w i => exact sm_ldc2_w C E hX hi h hl hw k
    | ldc_w i => exact sm_ldc_w C E hX hi h hl hw k
    | ldc i => exact sm_ldc C E hX hi h hl hw k
    | ifCond cc off => cases cc with
      | eq => exact sm_if_eq C E hX hi h hl hw k
      | ne => exact sm_if_ne C E hX hi h hl hw k
      | lt => exact sm_if_lt C E hX hi h hl hw k
      | ge => exact sm_if_ge C E hX hi h hl hw k
      | gt => exact sm_if_gt C E hX hi h hl hw k
      | le => exact sm_if_le C E hX hi h hl hw k
    | if_icmp cc off => cases cc with
      | eq => exact sm_icmp_eq C E hX hi h hl hw k
      | ne => exact sm_icmp_ne C E hX hi h hl hw k
      | lt => exact sm_icmp_lt C E hX hi h hl hw k
      | ge => exact sm_icmp_ge C E hX hi h hl hw k
      | gt => exact sm_icmp_gt C E hX hi h hl hw k
      | le => exact sm_icmp_le C E hX hi h hl hw k
    | getfield i => exact sm_getfield hsh C E hX hi h hl hw k
    | putfield i => exact sm_putfield hsh C E hX hi h hl hw k
    | getstatic i => exact sm_getstatic hsh C E hX hi h hl hw k
    | iaload => exact sm_iaload hsh C E hX hi h hl hw k
    | iastore => exact sm_iastore hsh C E hX hi h hl hw k
    | baload => exact sm_baload hsh C E hX hi h hl hw k
    | bastore => exact sm_bastore hsh C E hX hi h hl hw k
    | aaload => exact sm_aaload hsh C E hX hi h hl hw k
    | arraylength => exact sm_arraylength hsh C E hX hi h hl hw k
    | invokevirtual i =>
      exfalso
      simp only [ex, cV] at h
      (repeat' split at h) <;> cases h
    | invokestatic i =>
      exfalso
      simp only [ex, cS] at h
      (repeat' split at h) <;> cases h
    | ireturn =>
      exfalso
      simp only [ex] at h
      (repeat' split at h) <;> cases h
    | return_ =>
      exfalso
      simp only [ex] at h
      (repeat' split at h) <;> cases h
    | _ => cases h
end SIM4
