/-! constructors: what they are made of -/
abbrev KT (cI cZ cG : ClassId) : List (ClassId × FieldType) := [(cI, .int), (cZ, .boolean), (cG, .array .int)]
abbrev aZ (c : ClassId) (N : Nat) : va_E := .inl (c, N, .inl (fun _ => 0))
section CR
variable {p : Program} {l : Launch} {e : Env} {R : Room} {s : State} {m : MethodId} {args : Array Value} {below : List Frame} {meth : Method} {c : Code} {H : Heap} {locs : List Loc} {cells slots : Nat} {Q : State → Prop}
variable {D : va_G} {cI cZ cG : ClassId} {A : Nat → Prop} {ls : Array Slot} {pc z : Nat} {rest : List Value}
variable {ci k idx N NN h0 : Nat} {fs : List Value} {as : va_W} {CC : String} {T : u_T}
/-- a new row, into a final field -/
theorem cr_np {n : Int32} {at_ : ArrayType} {tyE : FieldType} {cE_ : ClassId} {kt : Nat}
    (hx : p.tables.exec = Jvm.exec) (hb : c.code = mb z) (hts : ∀ w ∈ gtb, w.before args s = true) (hown : s.vm.findClass (cnm (mo z)) = some m.cls) (hin2 : meth.name = "<init>") (hK : va_K D vwCl (KT cI cZ cG) s)
    (hA : ∀ q, s.heap.size ≤ q → A q) (hv : vwCl[ci]? = some (CC, T, NN)) (hinw : ∀ w ∈ u_ws CC T NN, w ∈ gtb) (ty0 : Nat → FieldType) (hty : ∀ k, k < NN → parseFieldDescriptor (T k).2.2.1 = some (ty0 k)) (hnm : ∀ a, a < NN → ∀ b, b < NN → a ≠ b → (T a).2.1 ≠ (T b).2.1)
    (hf : fld (mo z) idx = some (ci, k)) (hk : k < NN) (hfin : (T k).2.2.2 = true) (hdecl : (T k).1 = cnm (mo z)) (hd : parseFieldDescriptor (T k).2.2.1 = some (.array tyE)) (hfl : k < fs.length)
    (harr : Cond.arrayClass tyE ∈ gtb) (hat : newarray.typeOf at_ = tyE) (hkt : (KT cI cZ cG)[kt]? = some (cE_, tyE)) (hra : ∀ (U : State) (cA : ClassId), va_RA U cA tyE → U.vm.findClass ("[" ++ tyE.toString) = some cA) (ha : ∀ cA : ClassId, vp_cell cA (N, .inl (fun _ => 0)) = arrV cA N (fun _ => defaultValue tyE))
    (hnr : ∀ q, narrow (.array tyE) (.ref q) = .ref q) (hft : ∀ q, fits (.array tyE) (.ref q) = true) (hn : ¬ n < 0) (hN : n.toNatClampNeg = N) (hby : N * componentBytes tyE ≤ 536870912) (hcells : cells + 1 ≤ R.cells) (hslots : slots + N ≤ R.slots)
    (d1 : decode (mb z) pc = .ok (.newarray at_, 2)) (d2 : decode (mb z) (pc + 2) = .ok (.putfield idx, 3))
    (hP : va_P D vwCl ((h0, .inr (ci, fs)) :: as) H) (hD : va_D A ((h0, .inr (ci, fs)) :: as)) (hS : va_S A s.heap H locs)
    (kk : ∀ (q : Nat) (H1 : Heap) (locs1 : List Loc), va_P D vwCl ((h0, .inr (ci, fs.set k (.ref q))) :: (as ++ [(q, aZ cE_ N)])) H1 → va_D A ((h0, .inr (ci, fs.set k (.ref q))) :: (as ++ [(q, aZ cE_ N)])) → va_S A s.heap H1 locs1 → W p l e R s m args below meth c H1 locs1 (cells + 1) (slots + N) Q (F0 m (pc + 5) ls rest)) :
    W p l e R s m args below meth c H locs cells slots Q (F0 m pc ls (.int n :: .ref h0 :: rest)) := by
  refine va_newa (a0 := (N, .inl (fun _ => 0))) hx hb (by rw [hat]; exact hts _ harr) hat hK hP hD hS hA ha hn hN hby hcells hslots d1 (fun q cA H1 hK2 hP2 hD2 hS2 => ?_)
  have ec : cA = cE_ := by
    have h1 := hra s cA (hK2.2 3 (cA, tyE) rfl).2
    have h2 := hra s cE_ (hK.2 kt (cE_, tyE) hkt).2
    exact Option.some.inj (h1.symm.trans h2)
  subst ec
  have hlink := hts _ (g_of (fld_w hf) rfl)
  unfold fwd at hlink
  simp only [hv, Option.getD_some] at hlink
  exact va_putF hx hb hts hinw ty0 hty hnm hown hK hP2 hD2 hS2 0 rfl hv k hk hlink (fun _ h => h) hfin hin2 hdecl hd (hnr q) (hft q) hfl d2 (fun H3 locs3 hP3 hD3 hS3 => kk q H3 locs3 hP3 hD3 hS3)
/-- a reference, into a final field -/
theorem cr_pf {v : Value} {ty : FieldType}
    (hx : p.tables.exec = Jvm.exec) (hb : c.code = mb z) (hts : ∀ w ∈ gtb, w.before args s = true) (hown : s.vm.findClass (cnm (mo z)) = some m.cls) (hin2 : meth.name = "<init>") (hK : va_K D vwCl (KT cI cZ cG) s)
    (hv : vwCl[ci]? = some (CC, T, NN)) (hinw : ∀ w ∈ u_ws CC T NN, w ∈ gtb) (ty0 : Nat → FieldType) (hty : ∀ k, k < NN → parseFieldDescriptor (T k).2.2.1 = some (ty0 k)) (hnm : ∀ a, a < NN → ∀ b, b < NN → a ≠ b → (T a).2.1 ≠ (T b).2.1)
    (hf : fld (mo z) idx = some (ci, k)) (hk : k < NN) (hfin : (T k).2.2.2 = true) (hdecl : (T k).1 = cnm (mo z)) (hd : parseFieldDescriptor (T k).2.2.1 = some ty) (hnr : narrow ty v = v) (hft : fits ty v = true) (hfl : k < fs.length)
    (d2 : decode (mb z) pc = .ok (.putfield idx, 3))
    (hP : va_P D vwCl ((h0, .inr (ci, fs)) :: as) H) (hD : va_D A ((h0, .inr (ci, fs)) :: as)) (hS : va_S A s.heap H locs)
    (kk : ∀ (H1 : Heap) (locs1 : List Loc), va_P D vwCl ((h0, .inr (ci, fs.set k v)) :: as) H1 → va_D A ((h0, .inr (ci, fs.set k v)) :: as) → va_S A s.heap H1 locs1 → W p l e R s m args below meth c H1 locs1 cells slots Q (F0 m (pc + 3) ls rest)) :
    W p l e R s m args below meth c H locs cells slots Q (F0 m pc ls (v :: .ref h0 :: rest)) := by
  have hlink := hts _ (g_of (fld_w hf) rfl)
  unfold fwd at hlink
  simp only [hv, Option.getD_some] at hlink
  exact va_putF hx hb hts hinw ty0 hty hnm hown hK hP hD hS 0 rfl hv k hk hlink (fun _ h => h) hfin hin2 hdecl hd hnr hft hfl d2 kk
end CR
theorem Ev.cg {D : va_G} {cI cZ cG : ClassId} {ad ad' : Nat → Nat} {fm : Value} {A : Nat → Prop} {s : State} (h : Ev D cI cZ cG ad fm A s) (ha : ∀ k, 1000 ≤ k → ad' k = ad k) : Ev D cI cZ cG ad' fm A s := by
  obtain ⟨h1, h2, h3, h4, h5, h6⟩ := h
  have e1 : (fun i => ad' (1000 + i)) = fun i => ad (1000 + i) := funext fun i => ha _ (Nat.le_add_right _ _)
  have e2 : (fun i => ad' (1100 + i)) = fun i => ad (1100 + i) := funext fun i => ha _ (Nat.le_trans (by decide) (Nat.le_add_right _ _))
  refine ⟨h1, h2, h3, h4, by rw [e1, e2]; exact h5, fun q hq => ?_⟩
  have : 1000 ≤ q.2.2 := of_decide_eq_true (all_at (show jst.all (fun q => decide (1000 ≤ q.2.2)) = true by decide +kernel) hq)
  rw [ha _ this]
  exact h6 q hq
/-- what a constructor finds -/
def PreC (D : va_G) (cI cZ cG : ClassId) (ad : Nat → Nat) (fm : Value) (ws : va_W) (sz : Nat) (U : State) : Prop := U.heap.size = sz ∧ va_P D vwCl ws U.heap ∧ va_D (fun _ => True) ws ∧ Ev D cI cZ cG ad fm (va_A ws sz) U
theorem blindC {D : va_G} {cI cZ cG : ClassId} {ad : Nat → Nat} {fm : Value} {ws : va_W} {sz : Nat} {as : List Value} : FrameBlind (va_Pc as (PreC D cI cZ cG ad fm ws sz)) := by
  intro a U g mk q
  obtain ⟨q1, q2, q3, q4, q5⟩ := q
  exact ⟨q1, q2, q3, q4, q5.moved (u := U) (U := U.calling g mk a) rfl rfl⟩
/-- what it leaves -/
def PostC (D : va_G) (A : Nat → Prop) (Wf : (Nat → Nat) → va_W) (ad : Nat → Nat) (t : State) : Prop := va_P D vwCl (Wf ad) t.heap ∧ va_D A (Wf ad)
def rmC (z mc ms : Nat) : Room := { frames := mf z, cells := mc, slots := ms, locals := mlo z }
theorem in_aI : Cond.arrayClass .int ∈ gtb := g_of (List.mem_of_getElem? (i := 148) (by decide +kernel)) rfl
theorem in_aZ : Cond.arrayClass .boolean ∈ gtb := g_of (List.mem_of_getElem? (i := 1039) (by decide +kernel)) rfl
theorem in_oi : Cond.instanceMethod objectInit ∈ gtb := g_of (List.mem_of_getElem? (i := 75) (by decide +kernel)) rfl
theorem in_oc : Cond.code objectInit ⟨#[0xb1]⟩ 1 none ∈ gtb := g_of (List.mem_of_getElem? (i := 76) (by rfl)) rfl
