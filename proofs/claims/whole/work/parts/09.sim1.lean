/-! ONE STEP OF THE SMALL MACHINE IS ONE OF THE MACHINE (cases by wip/gen/gen_sim.py) -/
theorem ins_dec {y pc : Nat} {i : Instr} (h : ins y pc = some i) : ∃ n, decode (mb y) pc = .ok (i, n) ∧ n = ilen i n := by
  unfold ins at h
  split at h
  · split at h
    · rename_i h1 h2
      cases h
      exact ⟨_, h1, h2⟩
    · cases h
  · cases h
def Cx (p : Program) (s : State) (m : MethodId) (args : Array Value) (meth : Method) (c : Code) (R : Room) (y : Nat) : Prop :=
  p.tables.exec = Jvm.exec ∧ c.code = mb y ∧ c.maxLocals = mL y ∧ meth.sig.returnType = mr y ∧ meth.locks = false ∧ s.vm.findClass (cnm (mo y)) = some m.cls ∧ (∀ w ∈ gtb, w.before args s = true) ∧ mf y ≤ R.frames ∧ mlo y ≤ R.locals
abbrev fmD : String := "Ljava/util/function/BiFunction;"
def Ev (D : va_G) (cI cZ cG : ClassId) (ad : Nat → Nat) (fm : Value) (A : Nat → Prop) (s : State) : Prop :=
  va_K D vwCl [(cI, .int), (cZ, .boolean), (cG, .array .int)] s ∧ fm.category = 1 ∧ va_Z "java/lang/String" "COMPACT_STRINGS" "Z" (.int 1) A s s.heap ∧ va_Z "jdk/internal/util/Preconditions" "SIOOBE_FORMATTER" fmD fm A s s.heap ∧
  vk_S 7 jsl jsb (fun i => ad (1000 + i)) (fun i => ad (1100 + i)) A s s.heap ∧ ∀ q ∈ jst, vk_R RX3 q.1 q.2.1 (ad q.2.2) s
def Wo (sh : List (Nat × Nat × List Nat)) (D : va_G) (cI cZ cG : ClassId) (ad : Nat → Nat) (A : Nat → Prop) (s : State) (H : Heap) (locs : List Loc) (μ : mm) : Prop :=
  va_P D vwCl (wd sh cI cZ cG ad μ) H ∧ va_D A (wd sh cI cZ cG ad μ) ∧ va_S A s.heap H locs
def SC (ad : Nat → Nat) (A : Nat → Prop) (s : State) (μ : mm) : Prop := ∃ L, L < 2 ^ 31 ∧ va_X (ad 999) L (μ.1 999) s s.heap ∧ ad 999 < s.heap.size ∧ ¬ A (ad 999) ∧ μ.1 998 0 = Int32.ofNat L
def Kn (sh : List (Nat × Nat × List Nat)) (p : Program) (l : Launch) (e : Env) (R : Room) (s : State) (m : MethodId) (args : Array Value) (below : List Frame) (meth : Method) (c : Code) (cells slots : Nat) (Q : State → Prop) (D : va_G) (cI cZ cG : ClassId) (ad : Nat → Nat) (fm : Value) (A : Nat → Prop) (y : Nat) (t : mS) : Prop :=
  ∀ (ls' : Array Slot) (H' : Heap) (locs' : List Loc), LV ad fm y ls' t.2.1 → Wo sh D cI cZ cG ad A s H' locs' t.2.2.2 → W p l e R s m args below meth c H' locs' cells slots Q (F0 m t.1 ls' (t.2.2.1.map (tr ad fm)))
theorem jmp_inv {pc : Nat} {off : Int} {lv : List (Option Value)} {st : List Value} {μ : mm} {t : mS} (h : jmp pc off lv st μ = some (.inl t)) : ∃ tgt : Nat, (pc : Int) + off = (tgt : Int) ∧ t = (tgt, lv, st, μ) := by
  unfold jmp jck at h
  split at h
  · rename_i h1
    simp only [nx, Option.some.injEq, Sum.inl.injEq] at h
    exact ⟨_, h1.symm, h.symm⟩
  · cases h
theorem jck_inv {pc : Nat} {off : Int} {f : Nat → Option mR} {t : mR} (h : jck pc off f = some t) : ∃ tgt : Nat, (pc : Int) + off = (tgt : Int) ∧ f tgt = some t := by
  unfold jck at h
  split at h
  · rename_i h1
    exact ⟨_, h1.symm, h⟩
  · cases h
theorem jst_small : jst.all (fun q => decide (q.2.2 ≠ 1200)) = true := by decide +kernel
section SIM
variable {sh : List (Nat × Nat × List Nat)}
variable {p : Program} {l : Launch} {e : Env} {R : Room} {s : State} {m : MethodId} {args : Array Value} {below : List Frame} {meth : Method} {c : Code} {H : Heap} {locs : List Loc} {cells slots : Nat} {Q : State → Prop}
variable {D : va_G} {cI cZ cG : ClassId} {ad : Nat → Nat} {fm : Value} {A : Nat → Prop} {y pc : Nat} {lv : List (Option Value)} {st : List Value} {μ : mm} {ls : Array Slot} {t : mS}
theorem sm_iconst {n : Int} (C : Cx p s m args meth c R y) (E : Ev D cI cZ cG ad fm A s) (hX : mo y = 11 → SC ad A s μ) (hi : ins y pc = some (.iconst n)) (h : ex sh y pc lv st μ (.iconst n) = some (.inl t)) (hl : LV ad fm y ls lv) (hw : Wo sh D cI cZ cG ad A s H locs μ) (k : Kn sh p l e R s m args below meth c cells slots Q D cI cZ cG ad fm A y t) : W p l e R s m args below meth c H locs cells slots Q (F0 m pc ls (st.map (tr ad fm))) := by
  obtain ⟨n9, hd, hn⟩ := ins_dec hi
  cases (show n9 = 1 from hn)
  simp only [ex] at h
  simp only [nx, Option.some.injEq, Sum.inl.injEq] at h; subst h; exact lv_iconst C.1 C.2.1 hd rfl (k _ _ _ hl hw)
theorem sm_bipush {n : Int} (C : Cx p s m args meth c R y) (E : Ev D cI cZ cG ad fm A s) (hX : mo y = 11 → SC ad A s μ) (hi : ins y pc = some (.bipush n)) (h : ex sh y pc lv st μ (.bipush n) = some (.inl t)) (hl : LV ad fm y ls lv) (hw : Wo sh D cI cZ cG ad A s H locs μ) (k : Kn sh p l e R s m args below meth c cells slots Q D cI cZ cG ad fm A y t) : W p l e R s m args below meth c H locs cells slots Q (F0 m pc ls (st.map (tr ad fm))) := by
  obtain ⟨n9, hd, hn⟩ := ins_dec hi
  cases (show n9 = 2 from hn)
  simp only [ex] at h
  simp only [nx, Option.some.injEq, Sum.inl.injEq] at h; subst h; exact lv_bipush C.1 C.2.1 hd rfl (k _ _ _ hl hw)
theorem sm_sipush {n : Int} (C : Cx p s m args meth c R y) (E : Ev D cI cZ cG ad fm A s) (hX : mo y = 11 → SC ad A s μ) (hi : ins y pc = some (.sipush n)) (h : ex sh y pc lv st μ (.sipush n) = some (.inl t)) (hl : LV ad fm y ls lv) (hw : Wo sh D cI cZ cG ad A s H locs μ) (k : Kn sh p l e R s m args below meth c cells slots Q D cI cZ cG ad fm A y t) : W p l e R s m args below meth c H locs cells slots Q (F0 m pc ls (st.map (tr ad fm))) := by
  obtain ⟨n9, hd, hn⟩ := ins_dec hi
  cases (show n9 = 3 from hn)
  simp only [ex] at h
  simp only [nx, Option.some.injEq, Sum.inl.injEq] at h; subst h; exact lv_sipush C.1 C.2.1 hd rfl (k _ _ _ hl hw)
theorem sm_lconst {n : Fin 2} (C : Cx p s m args meth c R y) (E : Ev D cI cZ cG ad fm A s) (hX : mo y = 11 → SC ad A s μ) (hi : ins y pc = some (.lconst n)) (h : ex sh y pc lv st μ (.lconst n) = some (.inl t)) (hl : LV ad fm y ls lv) (hw : Wo sh D cI cZ cG ad A s H locs μ) (k : Kn sh p l e R s m args below meth c cells slots Q D cI cZ cG ad fm A y t) : W p l e R s m args below meth c H locs cells slots Q (F0 m pc ls (st.map (tr ad fm))) := by
  obtain ⟨n9, hd, hn⟩ := ins_dec hi
  cases (show n9 = 1 from hn)
  simp only [ex] at h
  simp only [nx, Option.some.injEq, Sum.inl.injEq] at h; subst h; exact lv_lconst C.1 C.2.1 hd rfl (k _ _ _ hl hw)
theorem sm_iadd  (C : Cx p s m args meth c R y) (E : Ev D cI cZ cG ad fm A s) (hX : mo y = 11 → SC ad A s μ) (hi : ins y pc = some (.iadd)) (h : ex sh y pc lv st μ (.iadd) = some (.inl t)) (hl : LV ad fm y ls lv) (hw : Wo sh D cI cZ cG ad A s H locs μ) (k : Kn sh p l e R s m args below meth c cells slots Q D cI cZ cG ad fm A y t) : W p l e R s m args below meth c H locs cells slots Q (F0 m pc ls (st.map (tr ad fm))) := by
  obtain ⟨n9, hd, hn⟩ := ins_dec hi
  cases (show n9 = 1 from hn)
  simp only [ex] at h
  split at h
  · simp only [nx, Option.some.injEq, Sum.inl.injEq] at h; subst h; exact lv_iadd C.1 C.2.1 hd (k _ _ _ hl hw)
  · cases h
theorem sm_isub  (C : Cx p s m args meth c R y) (E : Ev D cI cZ cG ad fm A s) (hX : mo y = 11 → SC ad A s μ) (hi : ins y pc = some (.isub)) (h : ex sh y pc lv st μ (.isub) = some (.inl t)) (hl : LV ad fm y ls lv) (hw : Wo sh D cI cZ cG ad A s H locs μ) (k : Kn sh p l e R s m args below meth c cells slots Q D cI cZ cG ad fm A y t) : W p l e R s m args below meth c H locs cells slots Q (F0 m pc ls (st.map (tr ad fm))) := by
  obtain ⟨n9, hd, hn⟩ := ins_dec hi
  cases (show n9 = 1 from hn)
  simp only [ex] at h
  split at h
  · simp only [nx, Option.some.injEq, Sum.inl.injEq] at h; subst h; exact lv_isub C.1 C.2.1 hd (k _ _ _ hl hw)
  · cases h
theorem sm_imul  (C : Cx p s m args meth c R y) (E : Ev D cI cZ cG ad fm A s) (hX : mo y = 11 → SC ad A s μ) (hi : ins y pc = some (.imul)) (h : ex sh y pc lv st μ (.imul) = some (.inl t)) (hl : LV ad fm y ls lv) (hw : Wo sh D cI cZ cG ad A s H locs μ) (k : Kn sh p l e R s m args below meth c cells slots Q D cI cZ cG ad fm A y t) : W p l e R s m args below meth c H locs cells slots Q (F0 m pc ls (st.map (tr ad fm))) := by
  obtain ⟨n9, hd, hn⟩ := ins_dec hi
  cases (show n9 = 1 from hn)
  simp only [ex] at h
  split at h
  · simp only [nx, Option.some.injEq, Sum.inl.injEq] at h; subst h; exact lv_imul C.1 C.2.1 hd (k _ _ _ hl hw)
  · cases h
theorem sm_iand  (C : Cx p s m args meth c R y) (E : Ev D cI cZ cG ad fm A s) (hX : mo y = 11 → SC ad A s μ) (hi : ins y pc = some (.iand)) (h : ex sh y pc lv st μ (.iand) = some (.inl t)) (hl : LV ad fm y ls lv) (hw : Wo sh D cI cZ cG ad A s H locs μ) (k : Kn sh p l e R s m args below meth c cells slots Q D cI cZ cG ad fm A y t) : W p l e R s m args below meth c H locs cells slots Q (F0 m pc ls (st.map (tr ad fm))) := by
  obtain ⟨n9, hd, hn⟩ := ins_dec hi
  cases (show n9 = 1 from hn)
  simp only [ex] at h
  split at h
  · simp only [nx, Option.some.injEq, Sum.inl.injEq] at h; subst h; exact lv_iand C.1 C.2.1 hd (k _ _ _ hl hw)
  · cases h
theorem sm_ior  (C : Cx p s m args meth c R y) (E : Ev D cI cZ cG ad fm A s) (hX : mo y = 11 → SC ad A s μ) (hi : ins y pc = some (.ior)) (h : ex sh y pc lv st μ (.ior) = some (.inl t)) (hl : LV ad fm y ls lv) (hw : Wo sh D cI cZ cG ad A s H locs μ) (k : Kn sh p l e R s m args below meth c cells slots Q D cI cZ cG ad fm A y t) : W p l e R s m args below meth c H locs cells slots Q (F0 m pc ls (st.map (tr ad fm))) := by
  obtain ⟨n9, hd, hn⟩ := ins_dec hi
  cases (show n9 = 1 from hn)
  simp only [ex] at h
  split at h
  · simp only [nx, Option.some.injEq, Sum.inl.injEq] at h; subst h; exact lv_ior C.1 C.2.1 hd (k _ _ _ hl hw)
  · cases h
theorem sm_ixor  (C : Cx p s m args meth c R y) (E : Ev D cI cZ cG ad fm A s) (hX : mo y = 11 → SC ad A s μ) (hi : ins y pc = some (.ixor)) (h : ex sh y pc lv st μ (.ixor) = some (.inl t)) (hl : LV ad fm y ls lv) (hw : Wo sh D cI cZ cG ad A s H locs μ) (k : Kn sh p l e R s m args below meth c cells slots Q D cI cZ cG ad fm A y t) : W p l e R s m args below meth c H locs cells slots Q (F0 m pc ls (st.map (tr ad fm))) := by
  obtain ⟨n9, hd, hn⟩ := ins_dec hi
  cases (show n9 = 1 from hn)
  simp only [ex] at h
  split at h
  · simp only [nx, Option.some.injEq, Sum.inl.injEq] at h; subst h; exact lv_ixor C.1 C.2.1 hd (k _ _ _ hl hw)
  · cases h
theorem sm_ishl  (C : Cx p s m args meth c R y) (E : Ev D cI cZ cG ad fm A s) (hX : mo y = 11 → SC ad A s μ) (hi : ins y pc = some (.ishl)) (h : ex sh y pc lv st μ (.ishl) = some (.inl t)) (hl : LV ad fm y ls lv) (hw : Wo sh D cI cZ cG ad A s H locs μ) (k : Kn sh p l e R s m args below meth c cells slots Q D cI cZ cG ad fm A y t) : W p l e R s m args below meth c H locs cells slots Q (F0 m pc ls (st.map (tr ad fm))) := by
  obtain ⟨n9, hd, hn⟩ := ins_dec hi
  cases (show n9 = 1 from hn)
  simp only [ex] at h
  split at h
  · simp only [nx, Option.some.injEq, Sum.inl.injEq] at h; subst h; exact lv_ishl C.1 C.2.1 hd (k _ _ _ hl hw)
  · cases h
theorem sm_ishr  (C : Cx p s m args meth c R y) (E : Ev D cI cZ cG ad fm A s) (hX : mo y = 11 → SC ad A s μ) (hi : ins y pc = some (.ishr)) (h : ex sh y pc lv st μ (.ishr) = some (.inl t)) (hl : LV ad fm y ls lv) (hw : Wo sh D cI cZ cG ad A s H locs μ) (k : Kn sh p l e R s m args below meth c cells slots Q D cI cZ cG ad fm A y t) : W p l e R s m args below meth c H locs cells slots Q (F0 m pc ls (st.map (tr ad fm))) := by
  obtain ⟨n9, hd, hn⟩ := ins_dec hi
  cases (show n9 = 1 from hn)
  simp only [ex] at h
  split at h
  · simp only [nx, Option.some.injEq, Sum.inl.injEq] at h; subst h; exact lv_ishr C.1 C.2.1 hd (k _ _ _ hl hw)
  · cases h
theorem sm_ladd  (C : Cx p s m args meth c R y) (E : Ev D cI cZ cG ad fm A s) (hX : mo y = 11 → SC ad A s μ) (hi : ins y pc = some (.ladd)) (h : ex sh y pc lv st μ (.ladd) = some (.inl t)) (hl : LV ad fm y ls lv) (hw : Wo sh D cI cZ cG ad A s H locs μ) (k : Kn sh p l e R s m args below meth c cells slots Q D cI cZ cG ad fm A y t) : W p l e R s m args below meth c H locs cells slots Q (F0 m pc ls (st.map (tr ad fm))) := by
  obtain ⟨n9, hd, hn⟩ := ins_dec hi
  cases (show n9 = 1 from hn)
  simp only [ex] at h
  split at h
  · simp only [nx, Option.some.injEq, Sum.inl.injEq] at h; subst h; exact lv_ladd C.1 C.2.1 hd (k _ _ _ hl hw)
  · cases h
theorem sm_lsub  (C : Cx p s m args meth c R y) (E : Ev D cI cZ cG ad fm A s) (hX : mo y = 11 → SC ad A s μ) (hi : ins y pc = some (.lsub)) (h : ex sh y pc lv st μ (.lsub) = some (.inl t)) (hl : LV ad fm y ls lv) (hw : Wo sh D cI cZ cG ad A s H locs μ) (k : Kn sh p l e R s m args below meth c cells slots Q D cI cZ cG ad fm A y t) : W p l e R s m args below meth c H locs cells slots Q (F0 m pc ls (st.map (tr ad fm))) := by
  obtain ⟨n9, hd, hn⟩ := ins_dec hi
  cases (show n9 = 1 from hn)
  simp only [ex] at h
  split at h
  · simp only [nx, Option.some.injEq, Sum.inl.injEq] at h; subst h; exact lv_lsub C.1 C.2.1 hd (k _ _ _ hl hw)
  · cases h
theorem sm_lmul  (C : Cx p s m args meth c R y) (E : Ev D cI cZ cG ad fm A s) (hX : mo y = 11 → SC ad A s μ) (hi : ins y pc = some (.lmul)) (h : ex sh y pc lv st μ (.lmul) = some (.inl t)) (hl : LV ad fm y ls lv) (hw : Wo sh D cI cZ cG ad A s H locs μ) (k : Kn sh p l e R s m args below meth c cells slots Q D cI cZ cG ad fm A y t) : W p l e R s m args below meth c H locs cells slots Q (F0 m pc ls (st.map (tr ad fm))) := by
  obtain ⟨n9, hd, hn⟩ := ins_dec hi
  cases (show n9 = 1 from hn)
  simp only [ex] at h
  split at h
  · simp only [nx, Option.some.injEq, Sum.inl.injEq] at h; subst h; exact lv_lmul C.1 C.2.1 hd (k _ _ _ hl hw)
  · cases h
theorem sm_land  (C : Cx p s m args meth c R y) (E : Ev D cI cZ cG ad fm A s) (hX : mo y = 11 → SC ad A s μ) (hi : ins y pc = some (.land)) (h : ex sh y pc lv st μ (.land) = some (.inl t)) (hl : LV ad fm y ls lv) (hw : Wo sh D cI cZ cG ad A s H locs μ) (k : Kn sh p l e R s m args below meth c cells slots Q D cI cZ cG ad fm A y t) : W p l e R s m args below meth c H locs cells slots Q (F0 m pc ls (st.map (tr ad fm))) := by
  obtain ⟨n9, hd, hn⟩ := ins_dec hi
  cases (show n9 = 1 from hn)
  simp only [ex] at h
  split at h
  · simp only [nx, Option.some.injEq, Sum.inl.injEq] at h; subst h; exact lv_land C.1 C.2.1 hd (k _ _ _ hl hw)
  · cases h
theorem sm_lor  (C : Cx p s m args meth c R y) (E : Ev D cI cZ cG ad fm A s) (hX : mo y = 11 → SC ad A s μ) (hi : ins y pc = some (.lor)) (h : ex sh y pc lv st μ (.lor) = some (.inl t)) (hl : LV ad fm y ls lv) (hw : Wo sh D cI cZ cG ad A s H locs μ) (k : Kn sh p l e R s m args below meth c cells slots Q D cI cZ cG ad fm A y t) : W p l e R s m args below meth c H locs cells slots Q (F0 m pc ls (st.map (tr ad fm))) := by
  obtain ⟨n9, hd, hn⟩ := ins_dec hi
  cases (show n9 = 1 from hn)
  simp only [ex] at h
  split at h
  · simp only [nx, Option.some.injEq, Sum.inl.injEq] at h; subst h; exact lv_lor C.1 C.2.1 hd (k _ _ _ hl hw)
  · cases h
theorem sm_ineg  (C : Cx p s m args meth c R y) (E : Ev D cI cZ cG ad fm A s) (hX : mo y = 11 → SC ad A s μ) (hi : ins y pc = some (.ineg)) (h : ex sh y pc lv st μ (.ineg) = some (.inl t)) (hl : LV ad fm y ls lv) (hw : Wo sh D cI cZ cG ad A s H locs μ) (k : Kn sh p l e R s m args below meth c cells slots Q D cI cZ cG ad fm A y t) : W p l e R s m args below meth c H locs cells slots Q (F0 m pc ls (st.map (tr ad fm))) := by
  obtain ⟨n9, hd, hn⟩ := ins_dec hi
  cases (show n9 = 1 from hn)
  simp only [ex] at h
  split at h
  · simp only [nx, Option.some.injEq, Sum.inl.injEq] at h; subst h; exact lv_ineg C.1 C.2.1 hd (k _ _ _ hl hw)
  · cases h
theorem sm_i2l  (C : Cx p s m args meth c R y) (E : Ev D cI cZ cG ad fm A s) (hX : mo y = 11 → SC ad A s μ) (hi : ins y pc = some (.i2l)) (h : ex sh y pc lv st μ (.i2l) = some (.inl t)) (hl : LV ad fm y ls lv) (hw : Wo sh D cI cZ cG ad A s H locs μ) (k : Kn sh p l e R s m args below meth c cells slots Q D cI cZ cG ad fm A y t) : W p l e R s m args below meth c H locs cells slots Q (F0 m pc ls (st.map (tr ad fm))) := by
  obtain ⟨n9, hd, hn⟩ := ins_dec hi
  cases (show n9 = 1 from hn)
  simp only [ex] at h
  split at h
  · simp only [nx, Option.some.injEq, Sum.inl.injEq] at h; subst h; exact lv_i2l C.1 C.2.1 hd rfl (k _ _ _ hl hw)
  · cases h
theorem sm_i2c  (C : Cx p s m args meth c R y) (E : Ev D cI cZ cG ad fm A s) (hX : mo y = 11 → SC ad A s μ) (hi : ins y pc = some (.i2c)) (h : ex sh y pc lv st μ (.i2c) = some (.inl t)) (hl : LV ad fm y ls lv) (hw : Wo sh D cI cZ cG ad A s H locs μ) (k : Kn sh p l e R s m args below meth c cells slots Q D cI cZ cG ad fm A y t) : W p l e R s m args below meth c H locs cells slots Q (F0 m pc ls (st.map (tr ad fm))) := by
  obtain ⟨n9, hd, hn⟩ := ins_dec hi
  cases (show n9 = 1 from hn)
  simp only [ex] at h
  split at h
  · simp only [nx, Option.some.injEq, Sum.inl.injEq] at h; subst h; exact lv_i2c C.1 C.2.1 hd rfl (k _ _ _ hl hw)
  · cases h
theorem sm_l2i  (C : Cx p s m args meth c R y) (E : Ev D cI cZ cG ad fm A s) (hX : mo y = 11 → SC ad A s μ) (hi : ins y pc = some (.l2i)) (h : ex sh y pc lv st μ (.l2i) = some (.inl t)) (hl : LV ad fm y ls lv) (hw : Wo sh D cI cZ cG ad A s H locs μ) (k : Kn sh p l e R s m args below meth c cells slots Q D cI cZ cG ad fm A y t) : W p l e R s m args below meth c H locs cells slots Q (F0 m pc ls (st.map (tr ad fm))) := by
  obtain ⟨n9, hd, hn⟩ := ins_dec hi
  cases (show n9 = 1 from hn)
  simp only [ex] at h
  split at h
  · simp only [nx, Option.some.injEq, Sum.inl.injEq] at h; subst h; exact lv_l2i C.1 C.2.1 hd rfl (k _ _ _ hl hw)
  · cases h
theorem sm_iushr  (C : Cx p s m args meth c R y) (E : Ev D cI cZ cG ad fm A s) (hX : mo y = 11 → SC ad A s μ) (hi : ins y pc = some (.iushr)) (h : ex sh y pc lv st μ (.iushr) = some (.inl t)) (hl : LV ad fm y ls lv) (hw : Wo sh D cI cZ cG ad A s H locs μ) (k : Kn sh p l e R s m args below meth c cells slots Q D cI cZ cG ad fm A y t) : W p l e R s m args below meth c H locs cells slots Q (F0 m pc ls (st.map (tr ad fm))) := by
  obtain ⟨n9, hd, hn⟩ := ins_dec hi
  cases (show n9 = 1 from hn)
  simp only [ex] at h
  split at h
  · simp only [nx, Option.some.injEq, Sum.inl.injEq] at h; subst h; exact lv_iushr C.1 C.2.1 hd rfl (k _ _ _ hl hw)
  · cases h
theorem sm_lshl  (C : Cx p s m args meth c R y) (E : Ev D cI cZ cG ad fm A s) (hX : mo y = 11 → SC ad A s μ) (hi : ins y pc = some (.lshl)) (h : ex sh y pc lv st μ (.lshl) = some (.inl t)) (hl : LV ad fm y ls lv) (hw : Wo sh D cI cZ cG ad A s H locs μ) (k : Kn sh p l e R s m args below meth c cells slots Q D cI cZ cG ad fm A y t) : W p l e R s m args below meth c H locs cells slots Q (F0 m pc ls (st.map (tr ad fm))) := by
  obtain ⟨n9, hd, hn⟩ := ins_dec hi
  cases (show n9 = 1 from hn)
  simp only [ex] at h
  split at h
  · simp only [nx, Option.some.injEq, Sum.inl.injEq] at h; subst h; exact lv_lshl C.1 C.2.1 hd rfl (k _ _ _ hl hw)
  · cases h
theorem sm_lshr  (C : Cx p s m args meth c R y) (E : Ev D cI cZ cG ad fm A s) (hX : mo y = 11 → SC ad A s μ) (hi : ins y pc = some (.lshr)) (h : ex sh y pc lv st μ (.lshr) = some (.inl t)) (hl : LV ad fm y ls lv) (hw : Wo sh D cI cZ cG ad A s H locs μ) (k : Kn sh p l e R s m args below meth c cells slots Q D cI cZ cG ad fm A y t) : W p l e R s m args below meth c H locs cells slots Q (F0 m pc ls (st.map (tr ad fm))) := by
  obtain ⟨n9, hd, hn⟩ := ins_dec hi
  cases (show n9 = 1 from hn)
  simp only [ex] at h
  split at h
  · simp only [nx, Option.some.injEq, Sum.inl.injEq] at h; subst h; exact lv_lshr C.1 C.2.1 hd rfl (k _ _ _ hl hw)
  · cases h
theorem sm_idiv  (C : Cx p s m args meth c R y) (E : Ev D cI cZ cG ad fm A s) (hX : mo y = 11 → SC ad A s μ) (hi : ins y pc = some (.idiv)) (h : ex sh y pc lv st μ (.idiv) = some (.inl t)) (hl : LV ad fm y ls lv) (hw : Wo sh D cI cZ cG ad A s H locs μ) (k : Kn sh p l e R s m args below meth c cells slots Q D cI cZ cG ad fm A y t) : W p l e R s m args below meth c H locs cells slots Q (F0 m pc ls (st.map (tr ad fm))) := by
  obtain ⟨n9, hd, hn⟩ := ins_dec hi
  cases (show n9 = 1 from hn)
  simp only [ex] at h
  split at h
  · split at h
    · cases h
    · rename_i hne; simp only [nx, Option.some.injEq, Sum.inl.injEq] at h; subst h; exact lv_idiv C.1 C.2.1 hd hne (k _ _ _ hl hw)
  · cases h
theorem sm_irem  (C : Cx p s m args meth c R y) (E : Ev D cI cZ cG ad fm A s) (hX : mo y = 11 → SC ad A s μ) (hi : ins y pc = some (.irem)) (h : ex sh y pc lv st μ (.irem) = some (.inl t)) (hl : LV ad fm y ls lv) (hw : Wo sh D cI cZ cG ad A s H locs μ) (k : Kn sh p l e R s m args below meth c cells slots Q D cI cZ cG ad fm A y t) : W p l e R s m args below meth c H locs cells slots Q (F0 m pc ls (st.map (tr ad fm))) := by
  obtain ⟨n9, hd, hn⟩ := ins_dec hi
  cases (show n9 = 1 from hn)
  simp only [ex] at h
  split at h
  · split at h
    · cases h
    · rename_i hne; simp only [nx, Option.some.injEq, Sum.inl.injEq] at h; subst h; exact lv_irem C.1 C.2.1 hd hne (k _ _ _ hl hw)
  · cases h
theorem sm_lcmp  (C : Cx p s m args meth c R y) (E : Ev D cI cZ cG ad fm A s) (hX : mo y = 11 → SC ad A s μ) (hi : ins y pc = some (.lcmp)) (h : ex sh y pc lv st μ (.lcmp) = some (.inl t)) (hl : LV ad fm y ls lv) (hw : Wo sh D cI cZ cG ad A s H locs μ) (k : Kn sh p l e R s m args below meth c cells slots Q D cI cZ cG ad fm A y t) : W p l e R s m args below meth c H locs cells slots Q (F0 m pc ls (st.map (tr ad fm))) := by
  obtain ⟨n9, hd, hn⟩ := ins_dec hi
  cases (show n9 = 1 from hn)
  simp only [ex] at h
  split at h
  · simp only [nx, Option.some.injEq, Sum.inl.injEq] at h; subst h; exact W.lcmp C.1 C.2.1 hd (k _ _ _ hl hw)
  · cases h
theorem sm_iload_n {n : Fin 4} (C : Cx p s m args meth c R y) (E : Ev D cI cZ cG ad fm A s) (hX : mo y = 11 → SC ad A s μ) (hi : ins y pc = some (.iload_n n)) (h : ex sh y pc lv st μ (.iload_n n) = some (.inl t)) (hl : LV ad fm y ls lv) (hw : Wo sh D cI cZ cG ad A s H locs μ) (k : Kn sh p l e R s m args below meth c cells slots Q D cI cZ cG ad fm A y t) : W p l e R s m args below meth c H locs cells slots Q (F0 m pc ls (st.map (tr ad fm))) := by
  obtain ⟨n9, hd, hn⟩ := ins_dec hi
  cases (show n9 = 1 from hn)
  simp only [ex] at h
  unfold lod at h
  split at h
  · rename_i v hv
    split at h
    · rename_i hk
      cases v <;> first | (cases hk; done) | skip
      simp only [nx, Option.some.injEq, Sum.inl.injEq] at h; subst h; exact lv_iload_n C.1 C.2.1 hd rfl (hl.2.2 _ _ hv) (k _ _ _ hl hw)
    · cases h
  · cases h
theorem sm_iload {n : Nat} (C : Cx p s m args meth c R y) (E : Ev D cI cZ cG ad fm A s) (hX : mo y = 11 → SC ad A s μ) (hi : ins y pc = some (.iload n)) (h : ex sh y pc lv st μ (.iload n) = some (.inl t)) (hl : LV ad fm y ls lv) (hw : Wo sh D cI cZ cG ad A s H locs μ) (k : Kn sh p l e R s m args below meth c cells slots Q D cI cZ cG ad fm A y t) : W p l e R s m args below meth c H locs cells slots Q (F0 m pc ls (st.map (tr ad fm))) := by
  obtain ⟨n9, hd, hn⟩ := ins_dec hi
  cases (show n9 = 2 from hn)
  simp only [ex] at h
  unfold lod at h
  split at h
  · rename_i v hv
    split at h
    · rename_i hk
      cases v <;> first | (cases hk; done) | skip
      simp only [nx, Option.some.injEq, Sum.inl.injEq] at h; subst h; exact lv_iload C.1 C.2.1 hd (hl.2.2 _ _ hv) (k _ _ _ hl hw)
    · cases h
  · cases h
theorem sm_lload_n {n : Fin 4} (C : Cx p s m args meth c R y) (E : Ev D cI cZ cG ad fm A s) (hX : mo y = 11 → SC ad A s μ) (hi : ins y pc = some (.lload_n n)) (h : ex sh y pc lv st μ (.lload_n n) = some (.inl t)) (hl : LV ad fm y ls lv) (hw : Wo sh D cI cZ cG ad A s H locs μ) (k : Kn sh p l e R s m args below meth c cells slots Q D cI cZ cG ad fm A y t) : W p l e R s m args below meth c H locs cells slots Q (F0 m pc ls (st.map (tr ad fm))) := by
  obtain ⟨n9, hd, hn⟩ := ins_dec hi
  cases (show n9 = 1 from hn)
  simp only [ex] at h
  unfold lod at h
  split at h
  · rename_i v hv
    split at h
    · rename_i hk
      cases v <;> first | (cases hk; done) | skip
      simp only [nx, Option.some.injEq, Sum.inl.injEq] at h; subst h; exact lv_lload_n C.1 C.2.1 hd rfl (hl.2.2 _ _ hv) (k _ _ _ hl hw)
    · cases h
  · cases h
theorem sm_aload_n {n : Fin 4} (C : Cx p s m args meth c R y) (E : Ev D cI cZ cG ad fm A s) (hX : mo y = 11 → SC ad A s μ) (hi : ins y pc = some (.aload_n n)) (h : ex sh y pc lv st μ (.aload_n n) = some (.inl t)) (hl : LV ad fm y ls lv) (hw : Wo sh D cI cZ cG ad A s H locs μ) (k : Kn sh p l e R s m args below meth c cells slots Q D cI cZ cG ad fm A y t) : W p l e R s m args below meth c H locs cells slots Q (F0 m pc ls (st.map (tr ad fm))) := by
  obtain ⟨n9, hd, hn⟩ := ins_dec hi
  cases (show n9 = 1 from hn)
  simp only [ex] at h
  unfold lod at h
  split at h
  · rename_i v hv
    split at h
    · rename_i hk
      cases v <;> first | (cases hk; done) | skip
      rename_i a
      have ha : ¬ a = 1200 := by simpa [isR] using hk
      simp only [nx, Option.some.injEq, Sum.inl.injEq] at h; subst h; have h1 := hl.2.2 _ _ hv
      have h2 : tr ad fm (.ref a) = .ref (ad a) := by simp [tr, rv, ha]
      have h3 := k _ _ _ hl hw
      rw [h2] at h1
      simp only [List.map_cons, h2] at h3
      exact lv_aload_n C.1 C.2.1 hd rfl h1 h3
    · cases h
  · cases h
theorem sm_istore_n {n : Fin 4} (C : Cx p s m args meth c R y) (E : Ev D cI cZ cG ad fm A s) (hX : mo y = 11 → SC ad A s μ) (hi : ins y pc = some (.istore_n n)) (h : ex sh y pc lv st μ (.istore_n n) = some (.inl t)) (hl : LV ad fm y ls lv) (hw : Wo sh D cI cZ cG ad A s H locs μ) (k : Kn sh p l e R s m args below meth c cells slots Q D cI cZ cG ad fm A y t) : W p l e R s m args below meth c H locs cells slots Q (F0 m pc ls (st.map (tr ad fm))) := by
  obtain ⟨n9, hd, hn⟩ := ins_dec hi
  cases (show n9 = 1 from hn)
  simp only [ex] at h
  unfold sto at h
  split at h
  · split at h
    · rename_i hc
      simp only [nx, Option.some.injEq, Sum.inl.injEq] at h; subst h; exact lv_istore_n C.1 C.2.1 hd rfl hl.has hc.1 rfl (fun ls2 h2 => k _ _ _ (LV.sto E.2.1 hc.2 h2) hw)
    · cases h
  · cases h
theorem sm_istore {n : Nat} (C : Cx p s m args meth c R y) (E : Ev D cI cZ cG ad fm A s) (hX : mo y = 11 → SC ad A s μ) (hi : ins y pc = some (.istore n)) (h : ex sh y pc lv st μ (.istore n) = some (.inl t)) (hl : LV ad fm y ls lv) (hw : Wo sh D cI cZ cG ad A s H locs μ) (k : Kn sh p l e R s m args below meth c cells slots Q D cI cZ cG ad fm A y t) : W p l e R s m args below meth c H locs cells slots Q (F0 m pc ls (st.map (tr ad fm))) := by
  obtain ⟨n9, hd, hn⟩ := ins_dec hi
  cases (show n9 = 2 from hn)
  simp only [ex] at h
  unfold sto at h
  split at h
  · split at h
    · rename_i hc
      simp only [nx, Option.some.injEq, Sum.inl.injEq] at h; subst h; exact lv_istore C.1 C.2.1 hd hl.has hc.1 rfl (fun ls2 h2 => k _ _ _ (LV.sto E.2.1 hc.2 h2) hw)
    · cases h
  · cases h
theorem sm_iinc {i : Nat} {n : Int} (C : Cx p s m args meth c R y) (E : Ev D cI cZ cG ad fm A s) (hX : mo y = 11 → SC ad A s μ) (hi : ins y pc = some (.iinc i n)) (h : ex sh y pc lv st μ (.iinc i n) = some (.inl t)) (hl : LV ad fm y ls lv) (hw : Wo sh D cI cZ cG ad A s H locs μ) (k : Kn sh p l e R s m args below meth c cells slots Q D cI cZ cG ad fm A y t) : W p l e R s m args below meth c H locs cells slots Q (F0 m pc ls (st.map (tr ad fm))) := by
  obtain ⟨n9, hd, hn⟩ := ins_dec hi
  cases (show n9 = 3 from hn)
  simp only [ex] at h
  split at h
  · rename_i x hx
    split at h
    · rename_i hc
      simp only [nx, Option.some.injEq, Sum.inl.injEq] at h; subst h; obtain ⟨k0, hk0⟩ := List.getElem?_of_mem (asc_in ad fm lv 0 i _ hx)
      rw [Nat.zero_add] at hk0
      exact lv_iinc C.1 C.2.1 hd hl.has hk0 rfl hc.1 rfl (fun ls2 h2 => k _ _ _ (LV.sto E.2.1 hc.2 h2) hw)
    · cases h
  · cases h
theorem sm_dup  (C : Cx p s m args meth c R y) (E : Ev D cI cZ cG ad fm A s) (hX : mo y = 11 → SC ad A s μ) (hi : ins y pc = some (.dup)) (h : ex sh y pc lv st μ (.dup) = some (.inl t)) (hl : LV ad fm y ls lv) (hw : Wo sh D cI cZ cG ad A s H locs μ) (k : Kn sh p l e R s m args below meth c cells slots Q D cI cZ cG ad fm A y t) : W p l e R s m args below meth c H locs cells slots Q (F0 m pc ls (st.map (tr ad fm))) := by
  obtain ⟨n9, hd, hn⟩ := ins_dec hi
  cases (show n9 = 1 from hn)
  simp only [ex] at h
  split at h
  · simp only [nx, Option.some.injEq, Sum.inl.injEq] at h; subst h; exact lv_dup C.1 C.2.1 hd rfl (k _ _ _ hl hw)
  · simp only [nx, Option.some.injEq, Sum.inl.injEq] at h; subst h; exact lv_dup C.1 C.2.1 hd ((tr_cat E.2.1 _).trans rfl) (k _ _ _ hl hw)
  · cases h
theorem sm_pop  (C : Cx p s m args meth c R y) (E : Ev D cI cZ cG ad fm A s) (hX : mo y = 11 → SC ad A s μ) (hi : ins y pc = some (.pop)) (h : ex sh y pc lv st μ (.pop) = some (.inl t)) (hl : LV ad fm y ls lv) (hw : Wo sh D cI cZ cG ad A s H locs μ) (k : Kn sh p l e R s m args below meth c cells slots Q D cI cZ cG ad fm A y t) : W p l e R s m args below meth c H locs cells slots Q (F0 m pc ls (st.map (tr ad fm))) := by
  obtain ⟨n9, hd, hn⟩ := ins_dec hi
  cases (show n9 = 1 from hn)
  simp only [ex] at h
  split at h
  · simp only [nx, Option.some.injEq, Sum.inl.injEq] at h; subst h; exact lv_pop C.1 C.2.1 hd rfl (k _ _ _ hl hw)
  · cases h
theorem sm_goto {off : Int} (C : Cx p s m args meth c R y) (E : Ev D cI cZ cG ad fm A s) (hX : mo y = 11 → SC ad A s μ) (hi : ins y pc = some (.goto off)) (h : ex sh y pc lv st μ (.goto off) = some (.inl t)) (hl : LV ad fm y ls lv) (hw : Wo sh D cI cZ cG ad A s H locs μ) (k : Kn sh p l e R s m args below meth c cells slots Q D cI cZ cG ad fm A y t) : W p l e R s m args below meth c H locs cells slots Q (F0 m pc ls (st.map (tr ad fm))) := by
  obtain ⟨n9, hd, hn⟩ := ins_dec hi
  cases (show n9 = 3 from hn)
  simp only [ex] at h
  obtain ⟨tgt, ht, rfl⟩ := jmp_inv h
  exact lv_goto C.1 C.2.1 hd ht (k _ _ _ hl hw)
theorem sm_if_eq {off : Int} (C : Cx p s m args meth c R y) (E : Ev D cI cZ cG ad fm A s) (hX : mo y = 11 → SC ad A s μ) (hi : ins y pc = some (.ifCond .eq off)) (h : ex sh y pc lv st μ (.ifCond .eq off) = some (.inl t)) (hl : LV ad fm y ls lv) (hw : Wo sh D cI cZ cG ad A s H locs μ) (k : Kn sh p l e R s m args below meth c cells slots Q D cI cZ cG ad fm A y t) : W p l e R s m args below meth c H locs cells slots Q (F0 m pc ls (st.map (tr ad fm))) := by
  obtain ⟨n9, hd, hn⟩ := ins_dec hi
  cases (show n9 = 3 from hn)
  simp only [ex] at h
  split at h
  · obtain ⟨tgt, ht, h⟩ := jck_inv h
    split at h
    · rename_i hc; simp only [nx, Option.some.injEq, Sum.inl.injEq] at h; subst h; exact lv_if_eq C.1 C.2.1 hd ht (fun _ => k _ _ _ hl hw) (fun z => absurd hc z)
    · rename_i hc; simp only [nx, Option.some.injEq, Sum.inl.injEq] at h; subst h; exact lv_if_eq C.1 C.2.1 hd ht (fun z => absurd z hc) (fun _ => k _ _ _ hl hw)
  · cases h
theorem sm_icmp_eq {off : Int} (C : Cx p s m args meth c R y) (E : Ev D cI cZ cG ad fm A s) (hX : mo y = 11 → SC ad A s μ) (hi : ins y pc = some (.if_icmp .eq off)) (h : ex sh y pc lv st μ (.if_icmp .eq off) = some (.inl t)) (hl : LV ad fm y ls lv) (hw : Wo sh D cI cZ cG ad A s H locs μ) (k : Kn sh p l e R s m args below meth c cells slots Q D cI cZ cG ad fm A y t) : W p l e R s m args below meth c H locs cells slots Q (F0 m pc ls (st.map (tr ad fm))) := by
  obtain ⟨n9, hd, hn⟩ := ins_dec hi
  cases (show n9 = 3 from hn)
  simp only [ex] at h
  split at h
  · obtain ⟨tgt, ht, h⟩ := jck_inv h
    split at h
    · rename_i hc; simp only [nx, Option.some.injEq, Sum.inl.injEq] at h; subst h; exact lv_icmp_eq C.1 C.2.1 hd ht (fun _ => k _ _ _ hl hw) (fun z => absurd hc z)
    · rename_i hc; simp only [nx, Option.some.injEq, Sum.inl.injEq] at h; subst h; exact lv_icmp_eq C.1 C.2.1 hd ht (fun z => absurd z hc) (fun _ => k _ _ _ hl hw)
  · cases h
theorem sm_if_ne {off : Int} (C : Cx p s m args meth c R y) (E : Ev D cI cZ cG ad fm A s) (hX : mo y = 11 → SC ad A s μ) (hi : ins y pc = some (.ifCond .ne off)) (h : ex sh y pc lv st μ (.ifCond .ne off) = some (.inl t)) (hl : LV ad fm y ls lv) (hw : Wo sh D cI cZ cG ad A s H locs μ) (k : Kn sh p l e R s m args below meth c cells slots Q D cI cZ cG ad fm A y t) : W p l e R s m args below meth c H locs cells slots Q (F0 m pc ls (st.map (tr ad fm))) := by
  obtain ⟨n9, hd, hn⟩ := ins_dec hi
  cases (show n9 = 3 from hn)
  simp only [ex] at h
  split at h
  · obtain ⟨tgt, ht, h⟩ := jck_inv h
    split at h
    · rename_i hc; simp only [nx, Option.some.injEq, Sum.inl.injEq] at h; subst h; exact lv_if_ne C.1 C.2.1 hd ht (fun z => absurd hc z) (fun _ => k _ _ _ hl hw)
    · rename_i hc; simp only [nx, Option.some.injEq, Sum.inl.injEq] at h; subst h; exact lv_if_ne C.1 C.2.1 hd ht (fun _ => k _ _ _ hl hw) (fun z => absurd z hc)
  · cases h
theorem sm_icmp_ne {off : Int} (C : Cx p s m args meth c R y) (E : Ev D cI cZ cG ad fm A s) (hX : mo y = 11 → SC ad A s μ) (hi : ins y pc = some (.if_icmp .ne off)) (h : ex sh y pc lv st μ (.if_icmp .ne off) = some (.inl t)) (hl : LV ad fm y ls lv) (hw : Wo sh D cI cZ cG ad A s H locs μ) (k : Kn sh p l e R s m args below meth c cells slots Q D cI cZ cG ad fm A y t) : W p l e R s m args below meth c H locs cells slots Q (F0 m pc ls (st.map (tr ad fm))) := by
  obtain ⟨n9, hd, hn⟩ := ins_dec hi
  cases (show n9 = 3 from hn)
  simp only [ex] at h
  split at h
  · obtain ⟨tgt, ht, h⟩ := jck_inv h
    split at h
    · rename_i hc; simp only [nx, Option.some.injEq, Sum.inl.injEq] at h; subst h; exact lv_icmp_ne C.1 C.2.1 hd ht (fun z => absurd hc z) (fun _ => k _ _ _ hl hw)
    · rename_i hc; simp only [nx, Option.some.injEq, Sum.inl.injEq] at h; subst h; exact lv_icmp_ne C.1 C.2.1 hd ht (fun _ => k _ _ _ hl hw) (fun z => absurd z hc)
  · cases h
theorem sm_if_lt {off : Int} (C : Cx p s m args meth c R y) (E : Ev D cI cZ cG ad fm A s) (hX : mo y = 11 → SC ad A s μ) (hi : ins y pc = some (.ifCond .lt off)) (h : ex sh y pc lv st μ (.ifCond .lt off) = some (.inl t)) (hl : LV ad fm y ls lv) (hw : Wo sh D cI cZ cG ad A s H locs μ) (k : Kn sh p l e R s m args below meth c cells slots Q D cI cZ cG ad fm A y t) : W p l e R s m args below meth c H locs cells slots Q (F0 m pc ls (st.map (tr ad fm))) := by
  obtain ⟨n9, hd, hn⟩ := ins_dec hi
  cases (show n9 = 3 from hn)
  simp only [ex] at h
  split at h
  · obtain ⟨tgt, ht, h⟩ := jck_inv h
    split at h
    · rename_i hc; simp only [nx, Option.some.injEq, Sum.inl.injEq] at h; subst h; exact lv_if_lt C.1 C.2.1 hd ht (fun _ => k _ _ _ hl hw) (fun z => absurd hc z)
    · rename_i hc; simp only [nx, Option.some.injEq, Sum.inl.injEq] at h; subst h; exact lv_if_lt C.1 C.2.1 hd ht (fun z => absurd z hc) (fun _ => k _ _ _ hl hw)
  · cases h
theorem sm_icmp_lt {off : Int} (C : Cx p s m args meth c R y) (E : Ev D cI cZ cG ad fm A s) (hX : mo y = 11 → SC ad A s μ) (hi : ins y pc = some (.if_icmp .lt off)) (h : ex sh y pc lv st μ (.if_icmp .lt off) = some (.inl t)) (hl : LV ad fm y ls lv) (hw : Wo sh D cI cZ cG ad A s H locs μ) (k : Kn sh p l e R s m args below meth c cells slots Q D cI cZ cG ad fm A y t) : W p l e R s m args below meth c H locs cells slots Q (F0 m pc ls (st.map (tr ad fm))) := by
  obtain ⟨n9, hd, hn⟩ := ins_dec hi
  cases (show n9 = 3 from hn)
  simp only [ex] at h
  split at h
  · obtain ⟨tgt, ht, h⟩ := jck_inv h
    split at h
    · rename_i hc; simp only [nx, Option.some.injEq, Sum.inl.injEq] at h; subst h; exact lv_icmp_lt C.1 C.2.1 hd ht (fun _ => k _ _ _ hl hw) (fun z => absurd hc z)
    · rename_i hc; simp only [nx, Option.some.injEq, Sum.inl.injEq] at h; subst h; exact lv_icmp_lt C.1 C.2.1 hd ht (fun z => absurd z hc) (fun _ => k _ _ _ hl hw)
  · cases h
theorem sm_if_ge {off : Int} (C : Cx p s m args meth c R y) (E : Ev D cI cZ cG ad fm A s) (hX : mo y = 11 → SC ad A s μ) (hi : ins y pc = some (.ifCond .ge off)) (h : ex sh y pc lv st μ (.ifCond .ge off) = some (.inl t)) (hl : LV ad fm y ls lv) (hw : Wo sh D cI cZ cG ad A s H locs μ) (k : Kn sh p l e R s m args below meth c cells slots Q D cI cZ cG ad fm A y t) : W p l e R s m args below meth c H locs cells slots Q (F0 m pc ls (st.map (tr ad fm))) := by
  obtain ⟨n9, hd, hn⟩ := ins_dec hi
  cases (show n9 = 3 from hn)
  simp only [ex] at h
  split at h
  · obtain ⟨tgt, ht, h⟩ := jck_inv h
    split at h
    · rename_i hc; simp only [nx, Option.some.injEq, Sum.inl.injEq] at h; subst h; exact lv_if_ge C.1 C.2.1 hd ht (fun _ => k _ _ _ hl hw) (fun z => absurd hc z)
    · rename_i hc; simp only [nx, Option.some.injEq, Sum.inl.injEq] at h; subst h; exact lv_if_ge C.1 C.2.1 hd ht (fun z => absurd z hc) (fun _ => k _ _ _ hl hw)
  · cases h
theorem sm_icmp_ge {off : Int} (C : Cx p s m args meth c R y) (E : Ev D cI cZ cG ad fm A s) (hX : mo y = 11 → SC ad A s μ) (hi : ins y pc = some (.if_icmp .ge off)) (h : ex sh y pc lv st μ (.if_icmp .ge off) = some (.inl t)) (hl : LV ad fm y ls lv) (hw : Wo sh D cI cZ cG ad A s H locs μ) (k : Kn sh p l e R s m args below meth c cells slots Q D cI cZ cG ad fm A y t) : W p l e R s m args below meth c H locs cells slots Q (F0 m pc ls (st.map (tr ad fm))) := by
  obtain ⟨n9, hd, hn⟩ := ins_dec hi
  cases (show n9 = 3 from hn)
  simp only [ex] at h
  split at h
  · obtain ⟨tgt, ht, h⟩ := jck_inv h
    split at h
    · rename_i hc; simp only [nx, Option.some.injEq, Sum.inl.injEq] at h; subst h; exact lv_icmp_ge C.1 C.2.1 hd ht (fun _ => k _ _ _ hl hw) (fun z => absurd hc z)
    · rename_i hc; simp only [nx, Option.some.injEq, Sum.inl.injEq] at h; subst h; exact lv_icmp_ge C.1 C.2.1 hd ht (fun z => absurd z hc) (fun _ => k _ _ _ hl hw)
  · cases h
theorem sm_if_gt {off : Int} (C : Cx p s m args meth c R y) (E : Ev D cI cZ cG ad fm A s) (hX : mo y = 11 → SC ad A s μ) (hi : ins y pc = some (.ifCond .gt off)) (h : ex sh y pc lv st μ (.ifCond .gt off) = some (.inl t)) (hl : LV ad fm y ls lv) (hw : Wo sh D cI cZ cG ad A s H locs μ) (k : Kn sh p l e R s m args below meth c cells slots Q D cI cZ cG ad fm A y t) : W p l e R s m args below meth c H locs cells slots Q (F0 m pc ls (st.map (tr ad fm))) := by
  obtain ⟨n9, hd, hn⟩ := ins_dec hi
  cases (show n9 = 3 from hn)
  simp only [ex] at h
  split at h
  · obtain ⟨tgt, ht, h⟩ := jck_inv h
    split at h
    · rename_i hc; simp only [nx, Option.some.injEq, Sum.inl.injEq] at h; subst h; exact lv_if_gt C.1 C.2.1 hd ht (fun _ => k _ _ _ hl hw) (fun z => absurd hc z)
    · rename_i hc; simp only [nx, Option.some.injEq, Sum.inl.injEq] at h; subst h; exact lv_if_gt C.1 C.2.1 hd ht (fun z => absurd z hc) (fun _ => k _ _ _ hl hw)
  · cases h
theorem sm_icmp_gt {off : Int} (C : Cx p s m args meth c R y) (E : Ev D cI cZ cG ad fm A s) (hX : mo y = 11 → SC ad A s μ) (hi : ins y pc = some (.if_icmp .gt off)) (h : ex sh y pc lv st μ (.if_icmp .gt off) = some (.inl t)) (hl : LV ad fm y ls lv) (hw : Wo sh D cI cZ cG ad A s H locs μ) (k : Kn sh p l e R s m args below meth c cells slots Q D cI cZ cG ad fm A y t) : W p l e R s m args below meth c H locs cells slots Q (F0 m pc ls (st.map (tr ad fm))) := by
  obtain ⟨n9, hd, hn⟩ := ins_dec hi
  cases (show n9 = 3 from hn)
  simp only [ex] at h
  split at h
  · obtain ⟨tgt, ht, h⟩ := jck_inv h
    split at h
    · rename_i hc; simp only [nx, Option.some.injEq, Sum.inl.injEq] at h; subst h; exact lv_icmp_gt C.1 C.2.1 hd ht (fun _ => k _ _ _ hl hw) (fun z => absurd hc z)
    · rename_i hc; simp only [nx, Option.some.injEq, Sum.inl.injEq] at h; subst h; exact lv_icmp_gt C.1 C.2.1 hd ht (fun z => absurd z hc) (fun _ => k _ _ _ hl hw)
  · cases h
theorem sm_if_le {off : Int} (C : Cx p s m args meth c R y) (E : Ev D cI cZ cG ad fm A s) (hX : mo y = 11 → SC ad A s μ) (hi : ins y pc = some (.ifCond .le off)) (h : ex sh y pc lv st μ (.ifCond .le off) = some (.inl t)) (hl : LV ad fm y ls lv) (hw : Wo sh D cI cZ cG ad A s H locs μ) (k : Kn sh p l e R s m args below meth c cells slots Q D cI cZ cG ad fm A y t) : W p l e R s m args below meth c H locs cells slots Q (F0 m pc ls (st.map (tr ad fm))) := by
  obtain ⟨n9, hd, hn⟩ := ins_dec hi
  cases (show n9 = 3 from hn)
  simp only [ex] at h
  split at h
  · obtain ⟨tgt, ht, h⟩ := jck_inv h
    split at h
    · rename_i hc; simp only [nx, Option.some.injEq, Sum.inl.injEq] at h; subst h; exact lv_if_le C.1 C.2.1 hd ht (fun _ => k _ _ _ hl hw) (fun z => absurd hc z)
    · rename_i hc; simp only [nx, Option.some.injEq, Sum.inl.injEq] at h; subst h; exact lv_if_le C.1 C.2.1 hd ht (fun z => absurd z hc) (fun _ => k _ _ _ hl hw)
  · cases h
theorem sm_icmp_le {off : Int} (C : Cx p s m args meth c R y) (E : Ev D cI cZ cG ad fm A s) (hX : mo y = 11 → SC ad A s μ) (hi : ins y pc = some (.if_icmp .le off)) (h : ex sh y pc lv st μ (.if_icmp .le off) = some (.inl t)) (hl : LV ad fm y ls lv) (hw : Wo sh D cI cZ cG ad A s H locs μ) (k : Kn sh p l e R s m args below meth c cells slots Q D cI cZ cG ad fm A y t) : W p l e R s m args below meth c H locs cells slots Q (F0 m pc ls (st.map (tr ad fm))) := by
  obtain ⟨n9, hd, hn⟩ := ins_dec hi
  cases (show n9 = 3 from hn)
  simp only [ex] at h
  split at h
  · obtain ⟨tgt, ht, h⟩ := jck_inv h
    split at h
    · rename_i hc; simp only [nx, Option.some.injEq, Sum.inl.injEq] at h; subst h; exact lv_icmp_le C.1 C.2.1 hd ht (fun _ => k _ _ _ hl hw) (fun z => absurd hc z)
    · rename_i hc; simp only [nx, Option.some.injEq, Sum.inl.injEq] at h; subst h; exact lv_icmp_le C.1 C.2.1 hd ht (fun z => absurd z hc) (fun _ => k _ _ _ hl hw)
  · cases h
theorem sm_tableswitch {d lo up : Int} {offs : Array Int} (C : Cx p s m args meth c R y) (E : Ev D cI cZ cG ad fm A s) (hX : mo y = 11 → SC ad A s μ) (hi : ins y pc = some (.tableswitch d lo up offs)) (h : ex sh y pc lv st μ (.tableswitch d lo up offs) = some (.inl t)) (hl : LV ad fm y ls lv) (hw : Wo sh D cI cZ cG ad A s H locs μ) (k : Kn sh p l e R s m args below meth c cells slots Q D cI cZ cG ad fm A y t) : W p l e R s m args below meth c H locs cells slots Q (F0 m pc ls (st.map (tr ad fm))) := by
  obtain ⟨n9, hd, hn⟩ := ins_dec hi
  simp only [ex] at h
  split at h
  · split at h
    · rename_i hc; obtain ⟨tgt, ht, rfl⟩ := jmp_inv h
      exact lv_tableOut C.1 C.2.1 hd hc ht (k _ _ _ hl hw)
    · rename_i hc
      split at h
      · rename_i off ho; obtain ⟨tgt, ht, rfl⟩ := jmp_inv h
        exact lv_tableIn C.1 C.2.1 hd (fun z => hc (Or.inl z)) (fun z => hc (Or.inr z)) ho ht (k _ _ _ hl hw)
      · cases h
  · cases h
theorem sm_lookupswitch {d : Int} {ps : Array (Int × Int)} (C : Cx p s m args meth c R y) (E : Ev D cI cZ cG ad fm A s) (hX : mo y = 11 → SC ad A s μ) (hi : ins y pc = some (.lookupswitch d ps)) (h : ex sh y pc lv st μ (.lookupswitch d ps) = some (.inl t)) (hl : LV ad fm y ls lv) (hw : Wo sh D cI cZ cG ad A s H locs μ) (k : Kn sh p l e R s m args below meth c cells slots Q D cI cZ cG ad fm A y t) : W p l e R s m args below meth c H locs cells slots Q (F0 m pc ls (st.map (tr ad fm))) := by
  obtain ⟨n9, hd, hn⟩ := ins_dec hi
  simp only [ex] at h
  split at h
  · split at h
    · rename_i hc; obtain ⟨tgt, ht, rfl⟩ := jmp_inv h
      exact lv_lookup C.1 C.2.1 hd hc rfl ht (k _ _ _ hl hw)
    · cases h
  · cases h
theorem sm_ldc2_w {i : Nat} (C : Cx p s m args meth c R y) (E : Ev D cI cZ cG ad fm A s) (hX : mo y = 11 → SC ad A s μ) (hi : ins y pc = some (.ldc2_w i)) (h : ex sh y pc lv st μ (.ldc2_w i) = some (.inl t)) (hl : LV ad fm y ls lv) (hw : Wo sh D cI cZ cG ad A s H locs μ) (k : Kn sh p l e R s m args below meth c cells slots Q D cI cZ cG ad fm A y t) : W p l e R s m args below meth c H locs cells slots Q (F0 m pc ls (st.map (tr ad fm))) := by
  obtain ⟨n9, hd, hn⟩ := ins_dec hi
  cases (show n9 = 3 from hn)
  simp only [ex] at h
  split at h
  · rename_i v hv; simp only [nx, Option.some.injEq, Sum.inl.injEq] at h; subst h; exact lv_ldc2 C.1 C.2.1 C.2.2.2.2.2.1 (C.2.2.2.2.2.2.1 _ (g_of (cst_lw hv) rfl)) hd (k _ _ _ hl hw)
  · cases h
theorem sm_ldc_w {i : Nat} (C : Cx p s m args meth c R y) (E : Ev D cI cZ cG ad fm A s) (hX : mo y = 11 → SC ad A s μ) (hi : ins y pc = some (.ldc_w i)) (h : ex sh y pc lv st μ (.ldc_w i) = some (.inl t)) (hl : LV ad fm y ls lv) (hw : Wo sh D cI cZ cG ad A s H locs μ) (k : Kn sh p l e R s m args below meth c cells slots Q D cI cZ cG ad fm A y t) : W p l e R s m args below meth c H locs cells slots Q (F0 m pc ls (st.map (tr ad fm))) := by
  obtain ⟨n9, hd, hn⟩ := ins_dec hi
  cases (show n9 = 3 from hn)
  simp only [ex] at h
  split at h
  · rename_i v hv; simp only [nx, Option.some.injEq, Sum.inl.injEq] at h; subst h; exact lv_ldcw C.1 C.2.1 C.2.2.2.2.2.1 (C.2.2.2.2.2.2.1 _ (g_of (cst_iw hv) rfl)) hd (k _ _ _ hl hw)
  · cases h
theorem sm_ldc {i : Nat} (C : Cx p s m args meth c R y) (E : Ev D cI cZ cG ad fm A s) (hX : mo y = 11 → SC ad A s μ) (hi : ins y pc = some (.ldc i)) (h : ex sh y pc lv st μ (.ldc i) = some (.inl t)) (hl : LV ad fm y ls lv) (hw : Wo sh D cI cZ cG ad A s H locs μ) (k : Kn sh p l e R s m args below meth c cells slots Q D cI cZ cG ad fm A y t) : W p l e R s m args below meth c H locs cells slots Q (F0 m pc ls (st.map (tr ad fm))) := by
  obtain ⟨n9, hd, hn⟩ := ins_dec hi
  cases (show n9 = 2 from hn)
  simp only [ex] at h
  split at h
  · rename_i v hv; simp only [nx, Option.some.injEq, Sum.inl.injEq] at h; subst h; exact lv_ldc C.1 C.2.1 C.2.2.2.2.2.1 (C.2.2.2.2.2.2.1 _ (g_of (cst_iw hv) rfl)) hd (k _ _ _ hl hw)
  · rename_i q hv; simp only [nx, Option.some.injEq, Sum.inl.injEq] at h; subst h; have h1 := all_at cst_r (cst_mem hv)
    simp only [Bool.and_eq_true, decide_eq_true_eq, List.any_eq_true] at h1
    obtain ⟨h1, z, hz, h2, h3⟩ := h1
    have h4 := E.2.2.2.2.2 z hz
    have hq : ¬ q = 1200 := by have := all_at jst_small hz; intro h9; rw [← h3] at h9; simp [h9] at this
    have h5 := k _ _ _ hl hw
    have h6 : tr ad fm (.ref q) = .ref (ad q) := by simp [tr, rv, hq]
    simp only [List.map_cons, h6] at h5
    rw [h2, h3] at h4
    have h7 := C.2.2.2.2.2.1
    rw [h1] at h7
    exact va_ldcS C.1 C.2.1 h7 h4 hd h5
  · cases h
end SIM
