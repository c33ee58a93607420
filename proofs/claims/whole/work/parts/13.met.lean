/-! A RUN OF THE SMALL MACHINE IS A CONTRACT OF THE MACHINE -/
theorem met_ofW {l : Launch} {y : MethodName} {ws ws' : List Cond} {rm : Room} {Pc : Array Value → State → Prop} {Qc : Array Value → State → Outcome → State → Prop} {mc ms : Nat} {free : Addr → Prop} {cc : ByteArray} {maxL : Nat} {ret : Option FieldType}
    (hy : plainFor y = true) (hw : ws = Cond.code y cc maxL ret :: ws')
    (body : ∀ p e s m args below meth c s₁, BodyLoose p l y (headSpec ws rm) cc maxL ret e s m args below meth c s₁ → c.maxLocals = maxL → Pc args s →
      W p l e (headSpec ws rm).room s m args below meth c s.heap [] 0 0 (MQ below Qc args s mc ms free) (entryFrame m args maxL)) : Met l y ws rm Pc Qc mc ms free := by
  refine MetFree.of_bodySF (code := cc) (maxLocals := maxL) (ret := ret) hy ?_ ?_
  · intro args s m h hn
    obtain ⟨meth, c, h1, h2, h3, h4, h5, h6, -, -⟩ := Cond.code_spec hn (atoms_spec (ws := ws) h _ (by rw [hw]; exact List.mem_cons_self))
    exact ⟨meth, c, h1, h2, h3, h4, h5, h6⟩
  · intro p e s m args below meth c s₁ B hml hP _
    have hh0 : s₁.heap = s.heap := by rw [B.state]; rfl
    obtain ⟨t, a1, o, b1, b2, b3⟩ := body p e s m args below meth c s₁ B hml hP s₁ hh0 (Stand.of_body B)
    exact ⟨t, o, a1, b1, b2, ⟨b3.1, b3.2⟩⟩
def wz (z : Nat) : List Cond := Cond.code (my z) (mb z) (mL z) (mr z) :: gtb
def rz (z : Nat) : Room := { frames := mf z, cells := 0, slots := 0, locals := mlo z }
def PreM (sh : List (Nat × Nat × List Nat)) (D : va_G) (cI cZ cG : ClassId) (ad : Nat → Nat) (fm : Value) (μ : mm) (sz : Nat) (U : State) : Prop := U.heap.size = sz ∧ va_P D vwCl (wd sh cI cZ cG ad μ) U.heap ∧ va_D (fun _ => True) (wd sh cI cZ cG ad μ) ∧ Ev D cI cZ cG ad fm (va_A (wd sh cI cZ cG ad μ) sz) U
def PostB (sh : List (Nat × Nat × List Nat)) (D : va_G) (cI cZ cG : ClassId) (ad : Nat → Nat) (μ μ' : mm) (sz : Nat) (_ : Unit) (t : State) : Prop := va_P D vwCl (wd sh cI cZ cG ad μ') t.heap ∧ va_D (va_A (wd sh cI cZ cG ad μ) sz) (wd sh cI cZ cG ad μ')
def QcM (sh : List (Nat × Nat × List Nat)) (D : va_G) (cI cZ cG : ClassId) (ad : Nat → Nat) (μ μ' : mm) (sz : Nat) (v : Option Value) : Array Value → State → Outcome → State → Prop := match v with
  | some (.int r) => va_Qi (S := Unit) (fun r' _ => r' = r) (PostB sh D cI cZ cG ad μ μ' sz) (va_A (wd sh cI cZ cG ad μ) sz)
  | _ => va_Qv (S := Unit) (fun _ => True) (PostB sh D cI cZ cG ad μ μ' sz) (va_A (wd sh cI cZ cG ad μ) sz)
theorem run_ret {sh : List (Nat × Nat × List Nat)} : ∀ (n y pc : Nat) (lv : List (Option Value)) (st : List Value) (μ : mm) (v : Option Value) (μ' : mm), run sh n y pc lv st μ = some (v, μ') → v = none ∨ ∃ x, v = some (.int x)
  | 0, _, _, _, _, _, _, _, h => by cases h
  | n + 1, y, pc, lv, st, μ, v, μ', h => by
    unfold run at h
    split at h
    · cases h
    · exact run_ret n _ _ _ _ _ v μ' h
    · split at h
      · cases h
      · exact run_ret n _ _ _ _ _ v μ' h
    · rename_i r hs
      cases h
      unfold stp at hs
      split at hs
      · rcases (ex_ret hs).2 with ⟨_, x, _, _, h2, _⟩ | ⟨_, _, h2, _⟩
        · exact Or.inr ⟨x, h2⟩
        · exact Or.inl h2
      · cases hs
theorem Ev.moved {D : va_G} {cI cZ cG : ClassId} {ad : Nat → Nat} {fm : Value} {A : Nat → Prop} {u U : State} (hh : U.heap = u.heap) (hv : U.vm = u.vm) (h : Ev D cI cZ cG ad fm A u) : Ev D cI cZ cG ad fm A U := by
  have hal : u.vm.Alike U.vm := by rw [hv]; exact Vm.Alike.refl u.vm
  obtain ⟨h1, h2, h3, h4, h5, h6⟩ := h
  exact ⟨h1.moved hal, h2, by rw [hh]; exact h3.moved hal, by rw [hh]; exact h4.moved hal, by rw [hh]; exact h5.moved hal, fun q hq => (h6 q hq).same hv⟩
theorem ent_args (ad : Nat → Nat) (fm : Value) (hf : fm.category = 1) : ∀ (as : List Value) (k i : Nat) (v : Value), (ent as)[i]? = some (some v) → (k + i, tr ad fm v) ∈ lv_args k (as.map (tr ad fm))
  | [], k, i, v, h => by simp [ent] at h
  | a :: t, k, i, v, h => by
    unfold ent at h
    simp only [List.map_cons, lv_args]
    rw [tr_cat hf]
    split at h
    · rename_i hc
      rw [if_pos hc]
      match i, h with
      | 0, h => cases h; exact List.mem_cons_self
      | 1, h => simp at h
      | i + 2, h =>
        have := ent_args ad fm hf t (k + 2) i v (by simpa using h)
        rw [show k + (i + 2) = k + 2 + i by omega]
        exact List.mem_cons_of_mem _ this
    · rename_i hc
      rw [if_neg hc]
      match i, h with
      | 0, h => cases h; exact List.mem_cons_self
      | i + 1, h =>
        have := ent_args ad fm hf t (k + 1) i v (by simpa using h)
        rw [show k + (i + 1) = k + 1 + i by omega]
        exact List.mem_cons_of_mem _ this
theorem lg_len (ad : Nat → Nat) (fm : Value) (hf : fm.category = 1) : ∀ (as : List Value), (lg_sl (as.map (tr ad fm))).length = (as.map fun v => v.category).sum
  | [] => rfl
  | a :: t => by
    have ih := lg_len ad fm hf t
    unfold lg_sl at ih ⊢
    simp only [List.map_cons, List.flatMap_cons, List.length_append, List.sum_cons, ih, tr_cat hf]
    rcases lv_cat a with h | h <;> simp [h]
def SimAt (sh : List (Nat × Nat × List Nat)) (n : Nat) : Prop := ∀ (l : Launch) (D : va_G) (cI cZ cG : ClassId) (ad : Nat → Nat) (fm : Value) (y pc : Nat) (lv : List (Option Value)) (st : List Value) (μ : mm) (v : Option Value) (μ' : mm), run sh n y pc lv st μ = some (v, μ') →
  ∀ (p : Program) (e : Env) (R : Room) (s : State) (m : MethodId) (args : Array Value) (below : List Frame) (meth : Method) (c : Code) (H : Heap) (locs : List Loc) (cells slots : Nat) (Q : State → Prop) (A : Nat → Prop) (ls : Array Slot),
    Cx p s m args meth c R y → Ev D cI cZ cG ad fm A s → (mo y = 11 → SC ad A s μ) → (∀ q, s.heap.size ≤ q → A q) → cells ≤ R.cells → slots ≤ R.slots → LV ad fm y ls lv → Wo sh D cI cZ cG ad A s H locs μ →
    (∀ (pc' : Nat) (lv' : List (Option Value)) (st' : List Value) (ls' : Array Slot) (H' : Heap) (locs' : List Loc), stp sh y pc' lv' st' μ' = some (.inr (.inr (v, μ'))) → Wo sh D cI cZ cG ad A s H' locs' μ' → W p l e R s m args below meth c H' locs' cells slots Q (F0 m pc' ls' (st'.map (tr ad fm)))) →
    W p l e R s m args below meth c H locs cells slots Q (F0 m pc ls (st.map (tr ad fm)))
theorem met_of {sh : List (Nat × Nat × List Nat)} {n : Nat} (ih : SimAt sh n) {l : Launch} {D : va_G} {cI cZ cG : ClassId} {ad : Nat → Nat} {fm : Value} {z : Nat} {as : List Value} {μ μ' : mm} {v : Option Value} (hz : z ∈ czs) (hr : run sh n z 0 (ent as) [] μ = some (v, μ')) (hlen : (as.map fun v => v.category).sum ≤ mL z) (sz : Nat) :
    Met l (my z) (wz z) (rz z) (va_Pc (as.map (tr ad fm)) (PreM sh D cI cZ cG ad fm μ sz)) (QcM sh D cI cZ cG ad μ μ' sz v) 0 0 (va_A (wd sh cI cZ cG ad μ) sz) := by
  refine met_ofW (cc := mb z) (maxL := mL z) (ret := mr z) (c_pf hz) rfl ?_
  intro p e s m args below meth c s₁ B hml hv
  obtain ⟨rfl, hsz, hP, hD0, hE⟩ := hv
  subst hsz
  have hts := atoms_spec (ws := wz z) B.pre
  have hown : s.vm.findClass (my z).cls = some m.cls := findClass_of_methodNamed B.named
  rw [c_cls hz] at hown
  have C : Cx p s m (as.map (tr ad fm)).toArray meth c (headSpec (wz z) (rz z)).room z := ⟨B.exec, B.bytes, hml, B.returns, B.notSynchronized, hown, fun w hw => hts w (List.mem_cons_of_mem _ hw), Nat.le_refl _, Nat.le_refl _⟩
  have hl := lv_entry (as.map (tr ad fm)) (n := mL z) (by rw [lg_len ad fm hE.2.1]; exact hlen)
  rw [lg_entry_eq]
  generalize (lg_sl (as.map (tr ad fm)) ++ List.replicate (mL z - (lg_sl (as.map (tr ad fm))).length) Slot.unset).toArray = ls at hl ⊢
  have hl2 : LV ad fm z ls (ent as) := ⟨hl.1, hl.2.1, fun i v hv => by have := hl.2.2 _ (ent_args ad fm hE.2.1 as 0 i v hv); simpa using this⟩
  refine ih l D cI cZ cG ad fm z 0 (ent as) [] μ v μ' hr p e _ s m _ below meth c s.heap [] 0 0 _ (va_A (wd sh cI cZ cG ad μ) s.heap.size) ls C hE (fun h9 => absurd h9 (by have := all_at cz_f6 hz; simpa using this)) (fun q h => Or.inr h) (Nat.zero_le _) (Nat.zero_le _) hl2 ⟨hP, hD0.self, va_S.rf⟩ ?_
  intro pc' lv' st' ls' H' locs' hst hw
  unfold stp at hst
  split at hst
  · rename_i i hi
    obtain ⟨-, h2⟩ := ex_ret hst
    obtain ⟨n9, hd, hn⟩ := ins_dec hi
    rcases h2 with ⟨rfl, x, ty, rfl, rfl, hty, hnr⟩ | ⟨rfl, rfl, rfl, hty⟩
    · cases (show n9 = 1 from hn)
      exact W.zret C.1 C.2.1 (C.2.2.2.1.trans hty) hnr (fun t ht hW => ⟨⟨x, (), rfl, rfl, by rw [ht]; exact hw.1, hw.2.1⟩, hw.2.2.F ht⟩) hw.2.2.2.2 hd (hlocks := C.2.2.2.2.1)
    · cases (show n9 = 1 from hn)
      exact W.vret C.1 C.2.1 (C.2.2.2.1.trans hty) (fun t ht hW => ⟨⟨(), rfl, trivial, by rw [ht]; exact hw.1, hw.2.1⟩, hw.2.2.F ht⟩) hw.2.2.2.2 hd (hlocks := C.2.2.2.2.1)
  · cases hst
