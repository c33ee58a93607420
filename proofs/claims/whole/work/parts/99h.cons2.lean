/-! constructors with calls (wip/gen/gen_cons2.py) -/
def AOI (U : State) : Prop := (Cond.arrayOver (.array .int)).before #[] U = true
def aoF (comp : ClassId) (x : Class) : Bool := match x.kind with
  | .array component _ => component == comp
  | _ => false
theorem aoF_bare (vm : Vm) (comp : ClassId) : vm.bare.classes.findIdx? (aoF comp) = vm.classes.findIdx? (aoF comp) := by
  simp only [Vm.bare, Array.findIdx?_map]
  rfl
theorem AOI.spec {s : State} (h : AOI s) : ∃ comp c k, s.vm.findClass (FieldType.array .int).toString = some comp ∧ s.vm.classes.findIdx? (aoF comp) = some c ∧ s.vm.classes[c]? = some k ∧ k.kind = .array comp (.array .int) ∧ s.vm.findClass ("[" ++ (FieldType.array .int).toString) = some c := by
  unfold AOI Cond.before at h
  simp only [Cond.holds, Cond.value, beq_iff_eq] at h
  cases hc : s.vm.findClass (FieldType.array .int).toString with
  | none => simp [hc] at h
  | some comp =>
    simp only [hc, Option.bind_some, Option.bind_eq_some_iff, Option.map_eq_some_iff] at h
    obtain ⟨c, hi, k, hk, hb⟩ := h
    obtain ⟨hlt, hp, -⟩ := Array.findIdx?_eq_some_iff_getElem.mp hi
    have hkk : s.vm.classes[c] = k := (Array.getElem?_eq_some_iff.mp hk).2
    rw [hkk] at hp
    cases hkind : k.kind with
    | array component ty =>
      rw [hkind] at hb hp
      simp at hb hp
      exact ⟨comp, c, k, rfl, hi, hk, by rw [hkind, hp, hb.1], hb.2⟩
    | _ => rw [hkind] at hb; simp at hb
theorem AOI.moved {u U : State} (hvm : u.vm.Alike U.vm) (h : AOI u) : AOI U := by
  obtain ⟨comp, c, k, h1, h2, h3, h4, h5⟩ := h.spec
  obtain ⟨k', hk', he⟩ := hvm.2.2 _ _ h3
  have hi : U.vm.classes.findIdx? (aoF comp) = some c := by
    rw [← aoF_bare]
    first | rw [hvm.bare_eq] | rw [← hvm.bare_eq]
    rw [aoF_bare]
    exact h2
  have hkind : k'.kind = .array comp (.array .int) := by rw [he]; exact h4
  have f1 : U.vm.findClass (FieldType.array .int).toString = some comp := by rw [hvm.findClass]; exact h1
  have f2 : U.vm.findClass ("[" ++ (FieldType.array .int).toString) = some c := by rw [hvm.findClass]; exact h5
  unfold AOI Cond.before Cond.holds
  simp only [Cond.value]
  rw [f1, Option.bind_some]
  refine (congrArg (fun o : Option Nat => (o.bind (fun c => (U.vm.classes[c]?).map fun (k : Class) => match k.kind with | .array _ ty => decide (ty = FieldType.array .int) && decide (U.vm.findClass ("[" ++ (FieldType.array .int).toString) = some c) | _ => false) == some true)) hi).trans ?_
  simp [hk', hkind, f2]
/-- two words more, that a call may not lose -/
def ZZ (U : State) : Prop := AOI U ∧ va_Nw (.methodLinkNest (cnm 9) 34 (my 68) "MinuteBehind") U
theorem ZZ.same {u U : State} (h : u.vm = U.vm) (hZ : ZZ u) : ZZ U := ⟨hZ.1.moved (by rw [h]; exact Vm.Alike.refl _), va_Nw.same rfl h hZ.2⟩
theorem ZZ.warm {s U : State} (hW : s.WarmedH U.vm) (hZ : ZZ s) : ZZ U := ⟨hZ.1.moved hW.alike, va_Nw.warmM hW hZ.2⟩
def PreZ (D : va_G) (cI cZ cG : ClassId) (ad : Nat → Nat) (fm : Value) (ws : va_W) (sz : Nat) (U : State) : Prop := ZZ U ∧ PreC D cI cZ cG ad fm ws sz U
theorem blindZ {D : va_G} {cI cZ cG : ClassId} {ad : Nat → Nat} {fm : Value} {ws : va_W} {sz : Nat} {as : List Value} : FrameBlind (va_Pc as (PreZ D cI cZ cG ad fm ws sz)) := by
  intro a U g mk q
  obtain ⟨q1, qz, q2, q3, q4, q5⟩ := q
  exact ⟨q1, qz.same (u := U) (U := U.calling g mk a) rfl, q2, q3, q4, q5.moved (u := U) (U := U.calling g mk a) rfl rfl⟩
theorem in_gcl : Cond.classLink (cnm (mo 23)) 30 ("[" ++ (FieldType.array .int).toString) ∈ gtb := g_of (List.mem_of_getElem? (i := 83) (by decide +kernel)) rfl
set_option maxHeartbeats 4000000 in
set_option maxRecDepth 100000 in
theorem k_75 (l : Launch) (D : va_G) (cI cZ cG : ClassId) (ad0 : Nat → Nat) (fm : Value) (h0 sz : Nat) : Met l (my 75) (wz 75) (rmC 75 2 4) (va_Pc [.ref h0] (PreC D cI cZ cG ad0 fm [(h0, .inr (8, [.int 0, .int 0, .null, .null]))] sz)) (va_Qv (S := Nat → Nat) (fun ad => ad 0 = h0) (PostC D (va_A [(h0, .inr (8, [.int 0, .int 0, .null, .null]))] sz) (fun ad => wd shW cI cZ cG ad mW1)) (va_A [(h0, .inr (8, [.int 0, .int 0, .null, .null]))] sz)) 2 4 (va_A [(h0, .inr (8, [.int 0, .int 0, .null, .null]))] sz) := by
  refine met_ofW (cc := mb 75) (maxL := mL 75) (ret := mr 75) (by decide +kernel) rfl ?_
  intro p e s m args below meth c s₁ B hml hv
  obtain ⟨rfl, hsz, hP, hD0, hE⟩ := hv
  subst hsz
  have hx := B.exec
  have hb := B.bytes
  have hr := B.returns
  have hts0 := atoms_spec (ws := wz 75) B.pre
  have hts : ∀ w ∈ gtb, w.before ([.ref h0] : List Value).toArray s = true := fun w hw => hts0 w (List.mem_cons_of_mem _ hw)
  have hown : s.vm.findClass (cnm (mo 75)) = some m.cls := findClass_of_methodNamed B.named
  have hlocks := B.notSynchronized
  have hin : meth.name = "<init>" := (name_of_methodNamed B.named B.method).1
  have hK := hE.1
  have hD := hD0.self (sz := s.heap.size)
  generalize hAe : va_A [(h0, .inr (8, [.int 0, .int 0, .null, .null]))] s.heap.size = A at hD hE ⊢
  have hA : ∀ q : Nat, s.heap.size ≤ q → A q := fun q h => by rw [← hAe]; exact Or.inr h
  have hS : va_S A s.heap s.heap [] := va_S.rf
  have hl := lv_entry ([.ref h0]) (n := 1) (Nat.le_of_ble_eq_true rfl)
  rw [show mL 75 = 1 from rfl, lg_entry_eq]
  generalize (lg_sl ([.ref h0]) ++ List.replicate (1 - (lg_sl ([.ref h0])).length) Slot.unset).toArray = ls at hl ⊢
  have hl : lv_has ls 1 [(0, .ref h0)] := hl
  refine lv_aload_n hx hb e75_0 rfl (lv_at hl 0 rfl) ?_
  refine W.objInit hx hb hown (hts _ in_ol75) (hts _ in_oi) (hts _ in_oc) rfl (by rw [hml]; exact hl.1) rfl e75_1 (Nat.le_of_ble_eq_true rfl) (Nat.le_of_ble_eq_true rfl) ?_
  refine W.eq (g2 := F0 m 4 ls []) rfl ?_
  refine lv_aload_n hx hb e75_4 rfl (lv_at hl 0 rfl) ?_
  refine lv_iconst (v := 2) hx hb e75_5 (by decide) ?_
  refine cr_np (n := 2) (N := 2) (k := 2) (idx := 9) (ci := 8) (kt := 0) (CC := RX8) (T := TX8) (NN := 4) (tyE := .int) hx hb hts hown hin hK hA rfl inX8 tyX8 tyX8_ok nmX8 f8_9 (by decide) rfl rfl rfl (Nat.le_of_ble_eq_true rfl) in_aI rfl rfl (fun _ _ h => h) (fun _ => rfl) (fun _ => rfl) (fun _ => rfl) (by decide) rfl (by decide) (Nat.le_of_ble_eq_true rfl) (Nat.le_of_ble_eq_true rfl) e75_6 e75_8 hP hD hS (fun q1 H locs hP hD hS => ?_)
  refine lv_aload_n hx hb e75_11 rfl (lv_at hl 0 rfl) ?_
  refine lv_iconst (v := 2) hx hb e75_12 (by decide) ?_
  refine cr_np (n := 2) (N := 2) (k := 3) (idx := 15) (ci := 8) (kt := 0) (CC := RX8) (T := TX8) (NN := 4) (tyE := .int) hx hb hts hown hin hK hA rfl inX8 tyX8 tyX8_ok nmX8 f8_15 (by decide) rfl rfl rfl (Nat.le_of_ble_eq_true rfl) in_aI rfl rfl (fun _ _ h => h) (fun _ => rfl) (fun _ => rfl) (fun _ => rfl) (by decide) rfl (by decide) (Nat.le_of_ble_eq_true rfl) (Nat.le_of_ble_eq_true rfl) e75_13 e75_15 hP hD hS (fun q2 H locs hP hD hS => ?_)
  have E' := hE.cg (adL_k [h0, q1, q2] ad0)
  have hw : Wo shW D cI cZ cG (adL [h0, q1, q2] ad0) A s H locs m00 := ⟨hP, hD, hS⟩
  refine lv_aload_n hx hb e75_18 rfl (lv_at hl 0 rfl) ?_
  refine cr_call (sh := shW) (n := 100) (z := 75) (z' := 76) (idx := 18) (xs := []) (q0 := (0, [0, 0, 3, 4])) (μ := m00) (μ' := mW1) (ad := adL [h0, q1, q2] ad0) (fm := fm) shW_ok hx hb hml hl.1 hts hown E' hw hA k8_18 rfl (by decide) rfl (Nat.le_of_ble_eq_true rfl) rfl (Nat.le_of_ble_eq_true rfl) (Nat.le_of_ble_eq_true rfl) (Nat.le_of_ble_eq_true rfl) (Nat.le_of_ble_eq_true rfl) ckW e75_19 (fun H locs hw => ?_)
  refine W.widen (k := 2) (n := 4) (by decide) (by decide) ?_
  exact W.vret hx hb hr (fun t ht hW => ⟨⟨adL [h0, q1, q2] ad0, rfl, rfl, by rw [ht]; exact hw.1, hw.2.1⟩, hw.2.2.F ht⟩) hw.2.2.2.2 e75_22
set_option maxHeartbeats 4000000 in
set_option maxRecDepth 100000 in
theorem k_23 (l : Launch) (D : va_G) (cI cZ cG : ClassId) (ad0 : Nat → Nat) (fm : Value) (h0 sz : Nat) : Met l (my 23) (wz 23) (rmC 23 17 164) (va_Pc [.ref h0] (PreZ D cI cZ cG ad0 fm [(h0, .inr (2, [.null, .int 0, .int 0, .null, .null, .null, .null, .null, .null]))] sz)) (va_Qv (S := Nat → Nat) (fun ad => ad 0 = h0) (PostC D (va_A [(h0, .inr (2, [.null, .int 0, .int 0, .null, .null, .null, .null, .null, .null]))] sz) (fun ad => wd shH cI cZ cG ad mH2)) (va_A [(h0, .inr (2, [.null, .int 0, .int 0, .null, .null, .null, .null, .null, .null]))] sz)) 17 164 (va_A [(h0, .inr (2, [.null, .int 0, .int 0, .null, .null, .null, .null, .null, .null]))] sz) := by
  refine met_ofW (cc := mb 23) (maxL := mL 23) (ret := mr 23) (by decide +kernel) rfl ?_
  intro p e s m args below meth c s₁ B hml hv
  obtain ⟨rfl, hZZ, hsz, hP, hD0, hE⟩ := hv
  subst hsz
  have hx := B.exec
  have hb := B.bytes
  have hr := B.returns
  have hts0 := atoms_spec (ws := wz 23) B.pre
  have hts : ∀ w ∈ gtb, w.before ([.ref h0] : List Value).toArray s = true := fun w hw => hts0 w (List.mem_cons_of_mem _ hw)
  have hown : s.vm.findClass (cnm (mo 23)) = some m.cls := findClass_of_methodNamed B.named
  have hlocks := B.notSynchronized
  have hin : meth.name = "<init>" := (name_of_methodNamed B.named B.method).1
  have hK := hE.1
  have hD := hD0.self (sz := s.heap.size)
  generalize hAe : va_A [(h0, .inr (2, [.null, .int 0, .int 0, .null, .null, .null, .null, .null, .null]))] s.heap.size = A at hD hE ⊢
  have hA : ∀ q : Nat, s.heap.size ≤ q → A q := fun q h => by rw [← hAe]; exact Or.inr h
  have hS : va_S A s.heap s.heap [] := va_S.rf
  have hl := lv_entry ([.ref h0]) (n := 1) (Nat.le_of_ble_eq_true rfl)
  rw [show mL 23 = 1 from rfl, lg_entry_eq]
  generalize (lg_sl ([.ref h0]) ++ List.replicate (1 - (lg_sl ([.ref h0])).length) Slot.unset).toArray = ls at hl ⊢
  have hl : lv_has ls 1 [(0, .ref h0)] := hl
  refine lv_aload_n hx hb e23_0 rfl (lv_at hl 0 rfl) ?_
  refine W.objInit hx hb hown (hts _ in_ol23) (hts _ in_oi) (hts _ in_oc) rfl (by rw [hml]; exact hl.1) rfl e23_1 (Nat.le_of_ble_eq_true rfl) (Nat.le_of_ble_eq_true rfl) ?_
  refine W.eq (g2 := F0 m 4 ls []) rfl ?_
  refine lv_aload_n hx hb e23_4 rfl (lv_at hl 0 rfl) ?_
  refine lv_bipush (v := 10) hx hb e23_5 (by decide) ?_
  refine cr_np (n := 10) (N := 10) (k := 0) (idx := 9) (ci := 2) (kt := 0) (CC := RX2) (T := TX2) (NN := 9) (tyE := .int) hx hb hts hown hin hK hA rfl inX2 tyX2 tyX2_ok nmX2 f2_9 (by decide) rfl rfl rfl (Nat.le_of_ble_eq_true rfl) in_aI rfl rfl (fun _ _ h => h) (fun _ => rfl) (fun _ => rfl) (fun _ => rfl) (by decide) rfl (by decide) (Nat.le_of_ble_eq_true rfl) (Nat.le_of_ble_eq_true rfl) e23_7 e23_9 hP hD hS (fun q1 H locs hP hD hS => ?_)
  refine lv_aload_n hx hb e23_12 rfl (lv_at hl 0 rfl) ?_
  refine lv_bipush (v := 10) hx hb e23_13 (by decide) ?_
  refine cr_np (n := 10) (N := 10) (k := 3) (idx := 15) (ci := 2) (kt := 0) (CC := RX2) (T := TX2) (NN := 9) (tyE := .int) hx hb hts hown hin hK hA rfl inX2 tyX2 tyX2_ok nmX2 f2_15 (by decide) rfl rfl rfl (Nat.le_of_ble_eq_true rfl) in_aI rfl rfl (fun _ _ h => h) (fun _ => rfl) (fun _ => rfl) (fun _ => rfl) (by decide) rfl (by decide) (Nat.le_of_ble_eq_true rfl) (Nat.le_of_ble_eq_true rfl) e23_15 e23_17 hP hD hS (fun q2 H locs hP hD hS => ?_)
  refine lv_aload_n hx hb e23_20 rfl (lv_at hl 0 rfl) ?_
  refine lv_bipush (v := 10) hx hb e23_21 (by decide) ?_
  refine cr_np (n := 10) (N := 10) (k := 4) (idx := 18) (ci := 2) (kt := 0) (CC := RX2) (T := TX2) (NN := 9) (tyE := .int) hx hb hts hown hin hK hA rfl inX2 tyX2 tyX2_ok nmX2 f2_18 (by decide) rfl rfl rfl (Nat.le_of_ble_eq_true rfl) in_aI rfl rfl (fun _ _ h => h) (fun _ => rfl) (fun _ => rfl) (fun _ => rfl) (by decide) rfl (by decide) (Nat.le_of_ble_eq_true rfl) (Nat.le_of_ble_eq_true rfl) e23_23 e23_25 hP hD hS (fun q3 H locs hP hD hS => ?_)
  refine lv_aload_n hx hb e23_28 rfl (lv_at hl 0 rfl) ?_
  refine lv_bipush (v := 8) hx hb e23_29 (by decide) ?_
  refine cr_np (n := 8) (N := 8) (k := 5) (idx := 21) (ci := 2) (kt := 0) (CC := RX2) (T := TX2) (NN := 9) (tyE := .int) hx hb hts hown hin hK hA rfl inX2 tyX2 tyX2_ok nmX2 f2_21 (by decide) rfl rfl rfl (Nat.le_of_ble_eq_true rfl) in_aI rfl rfl (fun _ _ h => h) (fun _ => rfl) (fun _ => rfl) (fun _ => rfl) (by decide) rfl (by decide) (Nat.le_of_ble_eq_true rfl) (Nat.le_of_ble_eq_true rfl) e23_31 e23_33 hP hD hS (fun q4 H locs hP hD hS => ?_)
  refine lv_aload_n hx hb e23_36 rfl (lv_at hl 0 rfl) ?_
  refine lv_bipush (v := 8) hx hb e23_37 (by decide) ?_
  refine cr_np (n := 8) (N := 8) (k := 6) (idx := 24) (ci := 2) (kt := 0) (CC := RX2) (T := TX2) (NN := 9) (tyE := .int) hx hb hts hown hin hK hA rfl inX2 tyX2 tyX2_ok nmX2 f2_24 (by decide) rfl rfl rfl (Nat.le_of_ble_eq_true rfl) in_aI rfl rfl (fun _ _ h => h) (fun _ => rfl) (fun _ => rfl) (fun _ => rfl) (by decide) rfl (by decide) (Nat.le_of_ble_eq_true rfl) (Nat.le_of_ble_eq_true rfl) e23_39 e23_41 hP hD hS (fun q5 H locs hP hD hS => ?_)
  refine lv_aload_n hx hb e23_44 rfl (lv_at hl 0 rfl) ?_
  refine lv_bipush (v := 8) hx hb e23_45 (by decide) ?_
  refine cr_np (n := 8) (N := 8) (k := 7) (idx := 27) (ci := 2) (kt := 0) (CC := RX2) (T := TX2) (NN := 9) (tyE := .int) hx hb hts hown hin hK hA rfl inX2 tyX2 tyX2_ok nmX2 f2_27 (by decide) rfl rfl rfl (Nat.le_of_ble_eq_true rfl) in_aI rfl rfl (fun _ _ h => h) (fun _ => rfl) (fun _ => rfl) (fun _ => rfl) (by decide) rfl (by decide) (Nat.le_of_ble_eq_true rfl) (Nat.le_of_ble_eq_true rfl) e23_47 e23_49 hP hD hS (fun q6 H locs hP hD hS => ?_)
  have hcy : s.vm.findClass (FieldType.array .int).toString = some cI := (hK.2 0 (cI, .int) rfl).2
  refine lv_aload_n hx hb e23_52 rfl (lv_at hl 0 rfl) ?_
  refine lv_bipush (v := 10) hx hb e23_53 (by decide) ?_
  refine lv_bipush (v := 10) hx hb e23_55 (by decide) ?_
  have hP : va_P D vwCl ([(h0, .inr (2, [.ref q1, .int 0, .int 0, .ref q2, .ref q3, .ref q4, .ref q5, .ref q6, .null])), (q1, aZ cI 10), (q2, aZ cI 10), (q3, aZ cI 10), (q4, aZ cI 8), (q5, aZ cI 8), (q6, aZ cI 8)] ++ va_pl [] (fun _ => aZ cI 10)) H := hP
  have hD : va_D A ([(h0, .inr (2, [.ref q1, .int 0, .int 0, .ref q2, .ref q3, .ref q4, .ref q5, .ref q6, .null])), (q1, aZ cI 10), (q2, aZ cI 10), (q3, aZ cI 10), (q4, aZ cI 8), (q5, aZ cI 8), (q6, aZ cI 8)] ++ va_pl [] (fun _ => aZ cI 10)) := hD
  refine va_mna (ty := .int) (cy := cI) (N' := 10) (K' := 10) (z := (10, .inl (fun _ => 0))) hx hb hown (hts _ in_gcl) hZZ.1 (hts _ in_aI) hcy hK hP hD hS hA (by decide) (by decide) rfl rfl (by decide) (by decide) (by decide) rfl rfl (Nat.le_of_ble_eq_true rfl) (Nat.le_of_ble_eq_true rfl) (fun c => by
    show ({ cls := c, slots := Array.replicate 10 (Value.int 0), vm := .none } : Cell) = _
    rw [arrV_new]
    rfl) e23_57 (fun q7 r cA H hri hrn hK2 hP hD hS => ?_)
  have ec : cA = cG := Option.some.inj ((hK2.2 3 (cA, .array .int) rfl).2.symm.trans (hK.2 2 (cG, .array .int) rfl).2)
  subst ec
  rw [← vr_rows (L := []) (fun a _ h => absurd h List.not_mem_nil)] at hP hD
  have eg : (fun i => if i < 10 then some (r i) else none) = fun j => (([8, 9, 10, 11, 12, 13, 14, 15, 16, 17] : List Nat)[j]?).map (adL [h0, q1, q2, q3, q4, q5, q6, q7, r 0, r 1, r 2, r 3, r 4, r 5, r 6, r 7, r 8, r 9] ad0) := by
    funext j
    by_cases hj : j < 10
    · rcases (show j = 0 ∨ j = 1 ∨ j = 2 ∨ j = 3 ∨ j = 4 ∨ j = 5 ∨ j = 6 ∨ j = 7 ∨ j = 8 ∨ j = 9 by omega) with rfl | rfl | rfl | rfl | rfl | rfl | rfl | rfl | rfl | rfl <;> rfl
    · rw [if_neg hj, List.getElem?_eq_none (by simp only [List.length_cons, List.length_nil]; omega)]
      rfl
  rw [eg] at hP hD
  have hP : va_P D vwCl ((h0, .inr (2, [.ref q1, .int 0, .int 0, .ref q2, .ref q3, .ref q4, .ref q5, .ref q6, .null])) :: [(q1, aZ cI 10), (q2, aZ cI 10), (q3, aZ cI 10), (q4, aZ cI 8), (q5, aZ cI 8), (q6, aZ cI 8), (q7, .inl (cA, 10, .inr (.inr (.inr (.inr (fun j => (([8, 9, 10, 11, 12, 13, 14, 15, 16, 17] : List Nat)[j]?).map (adL [h0, q1, q2, q3, q4, q5, q6, q7, r 0, r 1, r 2, r 3, r 4, r 5, r 6, r 7, r 8, r 9] ad0))))))), (r 0, aZ cI 10), (r 1, aZ cI 10), (r 2, aZ cI 10), (r 3, aZ cI 10), (r 4, aZ cI 10), (r 5, aZ cI 10), (r 6, aZ cI 10), (r 7, aZ cI 10), (r 8, aZ cI 10), (r 9, aZ cI 10)]) H := hP
  have hD : va_D A ((h0, .inr (2, [.ref q1, .int 0, .int 0, .ref q2, .ref q3, .ref q4, .ref q5, .ref q6, .null])) :: [(q1, aZ cI 10), (q2, aZ cI 10), (q3, aZ cI 10), (q4, aZ cI 8), (q5, aZ cI 8), (q6, aZ cI 8), (q7, .inl (cA, 10, .inr (.inr (.inr (.inr (fun j => (([8, 9, 10, 11, 12, 13, 14, 15, 16, 17] : List Nat)[j]?).map (adL [h0, q1, q2, q3, q4, q5, q6, q7, r 0, r 1, r 2, r 3, r 4, r 5, r 6, r 7, r 8, r 9] ad0))))))), (r 0, aZ cI 10), (r 1, aZ cI 10), (r 2, aZ cI 10), (r 3, aZ cI 10), (r 4, aZ cI 10), (r 5, aZ cI 10), (r 6, aZ cI 10), (r 7, aZ cI 10), (r 8, aZ cI 10), (r 9, aZ cI 10)]) := hD
  refine cr_pf (v := .ref q7) (k := 8) (idx := 32) (ci := 2) (CC := RX2) (T := TX2) (NN := 9) (ty := .array (.array .int)) hx hb hts hown hin hK rfl inX2 tyX2 tyX2_ok nmX2 f2_32 (by decide) rfl rfl rfl rfl rfl (Nat.le_of_ble_eq_true rfl) e23_61 hP hD hS (fun H locs hP hD hS => ?_)
  have E' := hE.cg (adL_k [h0, q1, q2, q3, q4, q5, q6, q7, r 0, r 1, r 2, r 3, r 4, r 5, r 6, r 7, r 8, r 9] ad0)
  have hw : Wo shH D cI cZ cA (adL [h0, q1, q2, q3, q4, q5, q6, q7, r 0, r 1, r 2, r 3, r 4, r 5, r 6, r 7, r 8, r 9] ad0) A s H locs m00 := ⟨hP, hD, hS⟩
  refine lv_aload_n hx hb e23_64 rfl (lv_at hl 0 rfl) ?_
  refine lv_iconst (v := 4) hx hb e23_65 (by decide) ?_
  refine cr_call (sh := shH) (n := 400) (z := 23) (z' := 24) (idx := 35) (xs := [.int 4]) (q0 := (0, [3, 0, 0, 4, 5, 6, 7, 8, 9])) (μ := m00) (μ' := mH1) (ad := adL [h0, q1, q2, q3, q4, q5, q6, q7, r 0, r 1, r 2, r 3, r 4, r 5, r 6, r 7, r 8, r 9] ad0) (fm := fm) shH_ok hx hb hml hl.1 hts hown E' hw hA k2_35 rfl (by decide) rfl (Nat.le_of_ble_eq_true rfl) rfl (Nat.le_of_ble_eq_true rfl) (Nat.le_of_ble_eq_true rfl) (Nat.le_of_ble_eq_true rfl) (Nat.le_of_ble_eq_true rfl) ckH1 e23_66 (fun H locs hw => ?_)
  refine lv_aload_n hx hb e23_69 rfl (lv_at hl 0 rfl) ?_
  refine cr_call (sh := shH) (n := 4000) (z := 23) (z' := 28) (idx := 39) (xs := []) (q0 := (0, [3, 0, 0, 4, 5, 6, 7, 8, 9])) (μ := mH1) (μ' := mH2) (ad := adL [h0, q1, q2, q3, q4, q5, q6, q7, r 0, r 1, r 2, r 3, r 4, r 5, r 6, r 7, r 8, r 9] ad0) (fm := fm) shH_ok hx hb hml hl.1 hts hown E' hw hA k2_39 rfl (by decide) rfl (Nat.le_of_ble_eq_true rfl) rfl (Nat.le_of_ble_eq_true rfl) (Nat.le_of_ble_eq_true rfl) (Nat.le_of_ble_eq_true rfl) (Nat.le_of_ble_eq_true rfl) ckH2 e23_70 (fun H locs hw => ?_)
  refine W.widen (k := 17) (n := 164) (by decide) (by decide) ?_
  exact W.vret hx hb hr (fun t ht hW => ⟨⟨adL [h0, q1, q2, q3, q4, q5, q6, q7, r 0, r 1, r 2, r 3, r 4, r 5, r 6, r 7, r 8, r 9] ad0, rfl, rfl, by rw [ht]; exact hw.1, hw.2.1⟩, hw.2.2.F ht⟩) hw.2.2.2.2 e23_73
set_option maxHeartbeats 4000000 in
set_option maxRecDepth 100000 in
theorem k_116 (l : Launch) (D : va_G) (cI cZ cG : ClassId) (ad0 : Nat → Nat) (fm : Value) (h0 sz : Nat) : Met l (my 116) (wz 116) (rmC 116 16 588) (va_Pc [.ref h0] (PreC D cI cZ cG ad0 fm [(h0, .inr (10, [.int 0, .null, .null, .int 0, .null, .int 0, .null, .int 0, .null, .null, .int 0, .null, .int 0, .int 0, .long 0, .int 0, .int 0, .int 0, .int 0, .int 0, .int 0, .int 0, .int 0, .null, .int 0, .int 0, .null, .null, .int 0, .null, .int 0, .null, .int 0, .null, .null, .null, .null]))] sz)) (va_Qv (S := Nat → Nat) (fun ad => ad 0 = h0) (PostC D (va_A [(h0, .inr (10, [.int 0, .null, .null, .int 0, .null, .int 0, .null, .int 0, .null, .null, .int 0, .null, .int 0, .int 0, .long 0, .int 0, .int 0, .int 0, .int 0, .int 0, .int 0, .int 0, .int 0, .null, .int 0, .int 0, .null, .null, .int 0, .null, .int 0, .null, .int 0, .null, .null, .null, .null]))] sz) (fun ad => wd shM cI cZ cG ad mM2)) (va_A [(h0, .inr (10, [.int 0, .null, .null, .int 0, .null, .int 0, .null, .int 0, .null, .null, .int 0, .null, .int 0, .int 0, .long 0, .int 0, .int 0, .int 0, .int 0, .int 0, .int 0, .int 0, .int 0, .null, .int 0, .int 0, .null, .null, .int 0, .null, .int 0, .null, .int 0, .null, .null, .null, .null]))] sz)) 16 588 (va_A [(h0, .inr (10, [.int 0, .null, .null, .int 0, .null, .int 0, .null, .int 0, .null, .null, .int 0, .null, .int 0, .int 0, .long 0, .int 0, .int 0, .int 0, .int 0, .int 0, .int 0, .int 0, .int 0, .null, .int 0, .int 0, .null, .null, .int 0, .null, .int 0, .null, .int 0, .null, .null, .null, .null]))] sz) := by
  refine met_ofW (cc := mb 116) (maxL := mL 116) (ret := mr 116) (by decide +kernel) rfl ?_
  intro p e s m args below meth c s₁ B hml hv
  obtain ⟨rfl, hsz, hP, hD0, hE⟩ := hv
  subst hsz
  have hx := B.exec
  have hb := B.bytes
  have hr := B.returns
  have hts0 := atoms_spec (ws := wz 116) B.pre
  have hts : ∀ w ∈ gtb, w.before ([.ref h0] : List Value).toArray s = true := fun w hw => hts0 w (List.mem_cons_of_mem _ hw)
  have hown : s.vm.findClass (cnm (mo 116)) = some m.cls := findClass_of_methodNamed B.named
  have hlocks := B.notSynchronized
  have hin : meth.name = "<init>" := (name_of_methodNamed B.named B.method).1
  have hK := hE.1
  have hD := hD0.self (sz := s.heap.size)
  generalize hAe : va_A [(h0, .inr (10, [.int 0, .null, .null, .int 0, .null, .int 0, .null, .int 0, .null, .null, .int 0, .null, .int 0, .int 0, .long 0, .int 0, .int 0, .int 0, .int 0, .int 0, .int 0, .int 0, .int 0, .null, .int 0, .int 0, .null, .null, .int 0, .null, .int 0, .null, .int 0, .null, .null, .null, .null]))] s.heap.size = A at hD hE ⊢
  have hA : ∀ q : Nat, s.heap.size ≤ q → A q := fun q h => by rw [← hAe]; exact Or.inr h
  have hS : va_S A s.heap s.heap [] := va_S.rf
  have hl := lv_entry ([.ref h0]) (n := 1) (Nat.le_of_ble_eq_true rfl)
  rw [show mL 116 = 1 from rfl, lg_entry_eq]
  generalize (lg_sl ([.ref h0]) ++ List.replicate (1 - (lg_sl ([.ref h0])).length) Slot.unset).toArray = ls at hl ⊢
  have hl : lv_has ls 1 [(0, .ref h0)] := hl
  refine lv_aload_n hx hb e116_0 rfl (lv_at hl 0 rfl) ?_
  refine W.objInit hx hb hown (hts _ in_ol116) (hts _ in_oi) (hts _ in_oc) rfl (by rw [hml]; exact hl.1) rfl e116_1 (Nat.le_of_ble_eq_true rfl) (Nat.le_of_ble_eq_true rfl) ?_
  refine W.eq (g2 := F0 m 4 ls []) rfl ?_
  refine lv_aload_n hx hb e116_4 rfl (lv_at hl 0 rfl) ?_
  refine lv_iconst (v := 4) hx hb e116_5 (by decide) ?_
  refine cr_pi (v := 4) (k := 0) (idx := 7) (ci := 10) (CC := RX10) (T := TX10) (NN := 37) hx hb hts hown hK rfl inX10 tyX10 tyX10_ok nmX10 f10_7 (by decide) rfl rfl (Nat.le_of_ble_eq_true rfl) e116_6 hP hD hS (fun H locs hP hD hS => ?_)
  refine lv_aload_n hx hb e116_9 rfl (lv_at hl 0 rfl) ?_
  refine lv_bipush (v := 10) hx hb e116_10 (by decide) ?_
  refine cr_np (n := 10) (N := 10) (k := 1) (idx := 13) (ci := 10) (kt := 0) (CC := RX10) (T := TX10) (NN := 37) (tyE := .int) hx hb hts hown hin hK hA rfl inX10 tyX10 tyX10_ok nmX10 f10_13 (by decide) rfl rfl rfl (Nat.le_of_ble_eq_true rfl) in_aI rfl rfl (fun _ _ h => h) (fun _ => rfl) (fun _ => rfl) (fun _ => rfl) (by decide) rfl (by decide) (Nat.le_of_ble_eq_true rfl) (Nat.le_of_ble_eq_true rfl) e116_12 e116_14 hP hD hS (fun q1 H locs hP hD hS => ?_)
  refine lv_aload_n hx hb e116_17 rfl (lv_at hl 0 rfl) ?_
  refine lv_bipush (v := 10) hx hb e116_18 (by decide) ?_
  refine cr_np (n := 10) (N := 10) (k := 2) (idx := 17) (ci := 10) (kt := 0) (CC := RX10) (T := TX10) (NN := 37) (tyE := .int) hx hb hts hown hin hK hA rfl inX10 tyX10 tyX10_ok nmX10 f10_17 (by decide) rfl rfl rfl (Nat.le_of_ble_eq_true rfl) in_aI rfl rfl (fun _ _ h => h) (fun _ => rfl) (fun _ => rfl) (fun _ => rfl) (by decide) rfl (by decide) (Nat.le_of_ble_eq_true rfl) (Nat.le_of_ble_eq_true rfl) e116_20 e116_22 hP hD hS (fun q2 H locs hP hD hS => ?_)
  refine lv_aload_n hx hb e116_25 rfl (lv_at hl 0 rfl) ?_
  refine lv_bipush (v := 24) hx hb e116_26 (by decide) ?_
  refine cr_np (n := 24) (N := 24) (k := 4) (idx := 20) (ci := 10) (kt := 0) (CC := RX10) (T := TX10) (NN := 37) (tyE := .int) hx hb hts hown hin hK hA rfl inX10 tyX10 tyX10_ok nmX10 f10_20 (by decide) rfl rfl rfl (Nat.le_of_ble_eq_true rfl) in_aI rfl rfl (fun _ _ h => h) (fun _ => rfl) (fun _ => rfl) (fun _ => rfl) (by decide) rfl (by decide) (Nat.le_of_ble_eq_true rfl) (Nat.le_of_ble_eq_true rfl) e116_28 e116_30 hP hD hS (fun q3 H locs hP hD hS => ?_)
  refine lv_aload_n hx hb e116_33 rfl (lv_at hl 0 rfl) ?_
  refine lv_bipush (v := 30) hx hb e116_34 (by decide) ?_
  refine cr_np (n := 30) (N := 30) (k := 6) (idx := 23) (ci := 10) (kt := 0) (CC := RX10) (T := TX10) (NN := 37) (tyE := .int) hx hb hts hown hin hK hA rfl inX10 tyX10 tyX10_ok nmX10 f10_23 (by decide) rfl rfl rfl (Nat.le_of_ble_eq_true rfl) in_aI rfl rfl (fun _ _ h => h) (fun _ => rfl) (fun _ => rfl) (fun _ => rfl) (by decide) rfl (by decide) (Nat.le_of_ble_eq_true rfl) (Nat.le_of_ble_eq_true rfl) e116_36 e116_38 hP hD hS (fun q4 H locs hP hD hS => ?_)
  refine lv_aload_n hx hb e116_41 rfl (lv_at hl 0 rfl) ?_
  refine lv_bipush (v := 30) hx hb e116_42 (by decide) ?_
  refine cr_np (n := 30) (N := 30) (k := 8) (idx := 26) (ci := 10) (kt := 0) (CC := RX10) (T := TX10) (NN := 37) (tyE := .int) hx hb hts hown hin hK hA rfl inX10 tyX10 tyX10_ok nmX10 f10_26 (by decide) rfl rfl rfl (Nat.le_of_ble_eq_true rfl) in_aI rfl rfl (fun _ _ h => h) (fun _ => rfl) (fun _ => rfl) (fun _ => rfl) (by decide) rfl (by decide) (Nat.le_of_ble_eq_true rfl) (Nat.le_of_ble_eq_true rfl) e116_44 e116_46 hP hD hS (fun q5 H locs hP hD hS => ?_)
  refine lv_aload_n hx hb e116_49 rfl (lv_at hl 0 rfl) ?_
  refine lv_bipush (v := 100) hx hb e116_50 (by decide) ?_
  refine cr_np (n := 100) (N := 100) (k := 9) (idx := 29) (ci := 10) (kt := 0) (CC := RX10) (T := TX10) (NN := 37) (tyE := .int) hx hb hts hown hin hK hA rfl inX10 tyX10 tyX10_ok nmX10 f10_29 (by decide) rfl rfl rfl (Nat.le_of_ble_eq_true rfl) in_aI rfl rfl (fun _ _ h => h) (fun _ => rfl) (fun _ => rfl) (fun _ => rfl) (by decide) rfl (by decide) (Nat.le_of_ble_eq_true rfl) (Nat.le_of_ble_eq_true rfl) e116_52 e116_54 hP hD hS (fun q6 H locs hP hD hS => ?_)
  refine lv_aload_n hx hb e116_57 rfl (lv_at hl 0 rfl) ?_
  refine lv_sipush (v := 200) hx hb e116_58 (by decide) ?_
  refine cr_np (n := 200) (N := 200) (k := 11) (idx := 32) (ci := 10) (kt := 0) (CC := RX10) (T := TX10) (NN := 37) (tyE := .int) hx hb hts hown hin hK hA rfl inX10 tyX10 tyX10_ok nmX10 f10_32 (by decide) rfl rfl rfl (Nat.le_of_ble_eq_true rfl) in_aI rfl rfl (fun _ _ h => h) (fun _ => rfl) (fun _ => rfl) (fun _ => rfl) (by decide) rfl (by decide) (Nat.le_of_ble_eq_true rfl) (Nat.le_of_ble_eq_true rfl) e116_61 e116_63 hP hD hS (fun q7 H locs hP hD hS => ?_)
  refine lv_aload_n hx hb e116_66 rfl (lv_at hl 0 rfl) ?_
  refine lv_bipush (v := 60) hx hb e116_67 (by decide) ?_
  refine cr_np (n := 60) (N := 60) (k := 23) (idx := 35) (ci := 10) (kt := 0) (CC := RX10) (T := TX10) (NN := 37) (tyE := .int) hx hb hts hown hin hK hA rfl inX10 tyX10 tyX10_ok nmX10 f10_35 (by decide) rfl rfl rfl (Nat.le_of_ble_eq_true rfl) in_aI rfl rfl (fun _ _ h => h) (fun _ => rfl) (fun _ => rfl) (fun _ => rfl) (by decide) rfl (by decide) (Nat.le_of_ble_eq_true rfl) (Nat.le_of_ble_eq_true rfl) e116_69 e116_71 hP hD hS (fun q8 H locs hP hD hS => ?_)
  refine lv_aload_n hx hb e116_74 rfl (lv_at hl 0 rfl) ?_
  refine lv_iconst (v := 4) hx hb e116_75 (by decide) ?_
  refine cr_np (n := 4) (N := 4) (k := 26) (idx := 38) (ci := 10) (kt := 0) (CC := RX10) (T := TX10) (NN := 37) (tyE := .int) hx hb hts hown hin hK hA rfl inX10 tyX10 tyX10_ok nmX10 f10_38 (by decide) rfl rfl rfl (Nat.le_of_ble_eq_true rfl) in_aI rfl rfl (fun _ _ h => h) (fun _ => rfl) (fun _ => rfl) (fun _ => rfl) (by decide) rfl (by decide) (Nat.le_of_ble_eq_true rfl) (Nat.le_of_ble_eq_true rfl) e116_76 e116_78 hP hD hS (fun q9 H locs hP hD hS => ?_)
  refine lv_aload_n hx hb e116_81 rfl (lv_at hl 0 rfl) ?_
  refine lv_iconst (v := 2) hx hb e116_82 (by decide) ?_
  refine cr_np (n := 2) (N := 2) (k := 27) (idx := 41) (ci := 10) (kt := 1) (CC := RX10) (T := TX10) (NN := 37) (tyE := .boolean) hx hb hts hown hin hK hA rfl inX10 tyX10 tyX10_ok nmX10 f10_41 (by decide) rfl rfl rfl (Nat.le_of_ble_eq_true rfl) in_aZ rfl rfl (fun _ _ h => h) (fun _ => rfl) (fun _ => rfl) (fun _ => rfl) (by decide) rfl (by decide) (Nat.le_of_ble_eq_true rfl) (Nat.le_of_ble_eq_true rfl) e116_83 e116_85 hP hD hS (fun q10 H locs hP hD hS => ?_)
  refine lv_aload_n hx hb e116_88 rfl (lv_at hl 0 rfl) ?_
  refine lv_bipush (v := 12) hx hb e116_89 (by decide) ?_
  refine cr_np (n := 12) (N := 12) (k := 29) (idx := 45) (ci := 10) (kt := 0) (CC := RX10) (T := TX10) (NN := 37) (tyE := .int) hx hb hts hown hin hK hA rfl inX10 tyX10 tyX10_ok nmX10 f10_45 (by decide) rfl rfl rfl (Nat.le_of_ble_eq_true rfl) in_aI rfl rfl (fun _ _ h => h) (fun _ => rfl) (fun _ => rfl) (fun _ => rfl) (by decide) rfl (by decide) (Nat.le_of_ble_eq_true rfl) (Nat.le_of_ble_eq_true rfl) e116_91 e116_93 hP hD hS (fun q11 H locs hP hD hS => ?_)
  refine lv_aload_n hx hb e116_96 rfl (lv_at hl 0 rfl) ?_
  refine lv_bipush (v := 40) hx hb e116_97 (by decide) ?_
  refine cr_np (n := 40) (N := 40) (k := 31) (idx := 48) (ci := 10) (kt := 0) (CC := RX10) (T := TX10) (NN := 37) (tyE := .int) hx hb hts hown hin hK hA rfl inX10 tyX10 tyX10_ok nmX10 f10_48 (by decide) rfl rfl rfl (Nat.le_of_ble_eq_true rfl) in_aI rfl rfl (fun _ _ h => h) (fun _ => rfl) (fun _ => rfl) (fun _ => rfl) (by decide) rfl (by decide) (Nat.le_of_ble_eq_true rfl) (Nat.le_of_ble_eq_true rfl) e116_99 e116_101 hP hD hS (fun q12 H locs hP hD hS => ?_)
  refine lv_aload_n hx hb e116_104 rfl (lv_at hl 0 rfl) ?_
  refine lv_bipush (v := 36) hx hb e116_105 (by decide) ?_
  refine cr_np (n := 36) (N := 36) (k := 33) (idx := 51) (ci := 10) (kt := 0) (CC := RX10) (T := TX10) (NN := 37) (tyE := .int) hx hb hts hown hin hK hA rfl inX10 tyX10 tyX10_ok nmX10 f10_51 (by decide) rfl rfl rfl (Nat.le_of_ble_eq_true rfl) in_aI rfl rfl (fun _ _ h => h) (fun _ => rfl) (fun _ => rfl) (fun _ => rfl) (by decide) rfl (by decide) (Nat.le_of_ble_eq_true rfl) (Nat.le_of_ble_eq_true rfl) e116_107 e116_109 hP hD hS (fun q13 H locs hP hD hS => ?_)
  refine lv_aload_n hx hb e116_112 rfl (lv_at hl 0 rfl) ?_
  refine lv_bipush (v := 10) hx hb e116_113 (by decide) ?_
  refine cr_np (n := 10) (N := 10) (k := 34) (idx := 54) (ci := 10) (kt := 0) (CC := RX10) (T := TX10) (NN := 37) (tyE := .int) hx hb hts hown hin hK hA rfl inX10 tyX10 tyX10_ok nmX10 f10_54 (by decide) rfl rfl rfl (Nat.le_of_ble_eq_true rfl) in_aI rfl rfl (fun _ _ h => h) (fun _ => rfl) (fun _ => rfl) (fun _ => rfl) (by decide) rfl (by decide) (Nat.le_of_ble_eq_true rfl) (Nat.le_of_ble_eq_true rfl) e116_115 e116_117 hP hD hS (fun q14 H locs hP hD hS => ?_)
  refine lv_aload_n hx hb e116_120 rfl (lv_at hl 0 rfl) ?_
  refine lv_bipush (v := 10) hx hb e116_121 (by decide) ?_
  refine cr_np (n := 10) (N := 10) (k := 35) (idx := 57) (ci := 10) (kt := 0) (CC := RX10) (T := TX10) (NN := 37) (tyE := .int) hx hb hts hown hin hK hA rfl inX10 tyX10 tyX10_ok nmX10 f10_57 (by decide) rfl rfl rfl (Nat.le_of_ble_eq_true rfl) in_aI rfl rfl (fun _ _ h => h) (fun _ => rfl) (fun _ => rfl) (fun _ => rfl) (by decide) rfl (by decide) (Nat.le_of_ble_eq_true rfl) (Nat.le_of_ble_eq_true rfl) e116_123 e116_125 hP hD hS (fun q15 H locs hP hD hS => ?_)
  refine lv_aload_n hx hb e116_128 rfl (lv_at hl 0 rfl) ?_
  refine lv_bipush (v := 10) hx hb e116_129 (by decide) ?_
  refine cr_np (n := 10) (N := 10) (k := 36) (idx := 60) (ci := 10) (kt := 0) (CC := RX10) (T := TX10) (NN := 37) (tyE := .int) hx hb hts hown hin hK hA rfl inX10 tyX10 tyX10_ok nmX10 f10_60 (by decide) rfl rfl rfl (Nat.le_of_ble_eq_true rfl) in_aI rfl rfl (fun _ _ h => h) (fun _ => rfl) (fun _ => rfl) (fun _ => rfl) (by decide) rfl (by decide) (Nat.le_of_ble_eq_true rfl) (Nat.le_of_ble_eq_true rfl) e116_131 e116_133 hP hD hS (fun q16 H locs hP hD hS => ?_)
  have E' := hE.cg (adL_k [h0, q1, q2, q3, q4, q5, q6, q7, q8, q9, q10, q11, q12, q13, q14, q15, q16] ad0)
  have hw : Wo shM D cI cZ cG (adL [h0, q1, q2, q3, q4, q5, q6, q7, q8, q9, q10, q11, q12, q13, q14, q15, q16] ad0) A s H locs mM0 := ⟨hP, hD, hS⟩
  refine lv_aload_n hx hb e116_136 rfl (lv_at hl 0 rfl) ?_
  refine cr_call (sh := shM) (n := 400) (z := 116) (z' := 121) (idx := 63) (xs := []) (q0 := (0, [0, 3, 4, 0, 5, 0, 6, 0, 7, 8, 0, 9, 0, 0, 1, 0, 0, 0, 0, 0, 0, 0, 0, 10, 0, 0, 11, 12, 0, 13, 0, 14, 0, 15, 16, 17, 18])) (μ := mM0) (μ' := mM1) (ad := adL [h0, q1, q2, q3, q4, q5, q6, q7, q8, q9, q10, q11, q12, q13, q14, q15, q16] ad0) (fm := fm) shM_ok hx hb hml hl.1 hts hown E' hw hA k10_63 rfl (by decide) rfl (Nat.le_of_ble_eq_true rfl) rfl (Nat.le_of_ble_eq_true rfl) (Nat.le_of_ble_eq_true rfl) (Nat.le_of_ble_eq_true rfl) (Nat.le_of_ble_eq_true rfl) ckM1 e116_137 (fun H locs hw => ?_)
  refine lv_aload_n hx hb e116_140 rfl (lv_at hl 0 rfl) ?_
  refine cr_call (sh := shM) (n := 4000) (z := 116) (z' := 122) (idx := 66) (xs := []) (q0 := (0, [0, 3, 4, 0, 5, 0, 6, 0, 7, 8, 0, 9, 0, 0, 1, 0, 0, 0, 0, 0, 0, 0, 0, 10, 0, 0, 11, 12, 0, 13, 0, 14, 0, 15, 16, 17, 18])) (μ := mM1) (μ' := mM2) (ad := adL [h0, q1, q2, q3, q4, q5, q6, q7, q8, q9, q10, q11, q12, q13, q14, q15, q16] ad0) (fm := fm) shM_ok hx hb hml hl.1 hts hown E' hw hA k10_66 rfl (by decide) rfl (Nat.le_of_ble_eq_true rfl) rfl (Nat.le_of_ble_eq_true rfl) (Nat.le_of_ble_eq_true rfl) (Nat.le_of_ble_eq_true rfl) (Nat.le_of_ble_eq_true rfl) ckM2 e116_141 (fun H locs hw => ?_)
  refine W.widen (k := 16) (n := 588) (by decide) (by decide) ?_
  exact W.vret hx hb hr (fun t ht hW => ⟨⟨adL [h0, q1, q2, q3, q4, q5, q6, q7, q8, q9, q10, q11, q12, q13, q14, q15, q16] ad0, rfl, rfl, by rw [ht]; exact hw.1, hw.2.1⟩, hw.2.2.F ht⟩) hw.2.2.2.2 e116_144
