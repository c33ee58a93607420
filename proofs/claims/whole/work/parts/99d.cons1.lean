/-! constructors that only lay rows (wip/gen/gen_cons.py) -/
abbrev wf0 (cI cZ : ClassId) (h0 hq : Nat) (ad : Nat → Nat) : va_W := [(h0, .inr (0, [.int 0, .ref hq, .ref (ad 1), .ref (ad 2), .ref (ad 3), .ref (ad 4), .ref (ad 5)])), ((ad 1), aZ cI 10), ((ad 2), aZ cI 10), ((ad 3), aZ cI 10), ((ad 4), aZ cI 10), ((ad 5), aZ cI 10)]
set_option maxHeartbeats 4000000 in
set_option maxRecDepth 100000 in
theorem k_0 (l : Launch) (D : va_G) (cI cZ cG : ClassId) (ad0 : Nat → Nat) (fm : Value) (h0 hq sz : Nat) : Met l (my 0) (wz 0) (rmC 0 5 50) (va_Pc [.ref h0, .ref hq] (PreC D cI cZ cG ad0 fm [(h0, .inr (0, [.int 0, .null, .null, .null, .null, .null, .null]))] sz)) (va_Qv (S := Nat → Nat) (fun _ => True) (PostC D (va_A [(h0, .inr (0, [.int 0, .null, .null, .null, .null, .null, .null]))] sz) (wf0 cI cZ h0 hq)) (va_A [(h0, .inr (0, [.int 0, .null, .null, .null, .null, .null, .null]))] sz)) 5 50 (va_A [(h0, .inr (0, [.int 0, .null, .null, .null, .null, .null, .null]))] sz) := by
  refine met_ofW (cc := mb 0) (maxL := mL 0) (ret := mr 0) (by decide +kernel) rfl ?_
  intro p e s m args below meth c s₁ B hml hv
  obtain ⟨rfl, hsz, hP, hD0, hE⟩ := hv
  subst hsz
  have hx := B.exec
  have hb := B.bytes
  have hr := B.returns
  have hts0 := atoms_spec (ws := wz 0) B.pre
  have hts : ∀ w ∈ gtb, w.before ([.ref h0, .ref hq] : List Value).toArray s = true := fun w hw => hts0 w (List.mem_cons_of_mem _ hw)
  have hown : s.vm.findClass (cnm (mo 0)) = some m.cls := findClass_of_methodNamed B.named
  have hlocks := B.notSynchronized
  have hin : meth.name = "<init>" := (name_of_methodNamed B.named B.method).1
  have hK := hE.1
  have hD := hD0.self (sz := s.heap.size)
  generalize hAe : va_A [(h0, .inr (0, [.int 0, .null, .null, .null, .null, .null, .null]))] s.heap.size = A at hD hE ⊢
  have hA : ∀ q : Nat, s.heap.size ≤ q → A q := fun q h => by rw [← hAe]; exact Or.inr h
  have hS : va_S A s.heap s.heap [] := va_S.rf
  have hl := lv_entry ([.ref h0, .ref hq]) (n := 2) (Nat.le_of_ble_eq_true rfl)
  rw [show mL 0 = 2 from rfl, lg_entry_eq]
  generalize (lg_sl ([.ref h0, .ref hq]) ++ List.replicate (2 - (lg_sl ([.ref h0, .ref hq])).length) Slot.unset).toArray = ls at hl ⊢
  have hl : lv_has ls 2 [(0, .ref h0), (1, .ref hq)] := hl
  refine lv_aload_n hx hb e0_0 rfl (lv_at hl 0 rfl) ?_
  refine W.objInit hx hb hown (hts _ in_ol0) (hts _ in_oi) (hts _ in_oc) rfl (by rw [hml]; exact hl.1) rfl e0_1 (Nat.le_of_ble_eq_true rfl) (Nat.le_of_ble_eq_true rfl) ?_
  refine W.eq (g2 := F0 m 4 ls []) rfl ?_
  refine lv_aload_n hx hb e0_4 rfl (lv_at hl 0 rfl) ?_
  refine lv_bipush (v := 10) hx hb e0_5 (by decide) ?_
  refine cr_np (n := 10) (N := 10) (k := 2) (idx := 9) (ci := 0) (kt := 0) (CC := RX0) (T := TX0) (NN := 7) (tyE := .int) hx hb hts hown hin hK hA rfl inX0 tyX0 tyX0_ok nmX0 f0_9 (by decide) rfl rfl rfl (Nat.le_of_ble_eq_true rfl) in_aI rfl rfl (fun _ _ h => h) (fun _ => rfl) (fun _ => rfl) (fun _ => rfl) (by decide) rfl (by decide) (Nat.le_of_ble_eq_true rfl) (Nat.le_of_ble_eq_true rfl) e0_7 e0_9 hP hD hS (fun q1 H locs hP hD hS => ?_)
  refine lv_aload_n hx hb e0_12 rfl (lv_at hl 0 rfl) ?_
  refine lv_bipush (v := 10) hx hb e0_13 (by decide) ?_
  refine cr_np (n := 10) (N := 10) (k := 3) (idx := 15) (ci := 0) (kt := 0) (CC := RX0) (T := TX0) (NN := 7) (tyE := .int) hx hb hts hown hin hK hA rfl inX0 tyX0 tyX0_ok nmX0 f0_15 (by decide) rfl rfl rfl (Nat.le_of_ble_eq_true rfl) in_aI rfl rfl (fun _ _ h => h) (fun _ => rfl) (fun _ => rfl) (fun _ => rfl) (by decide) rfl (by decide) (Nat.le_of_ble_eq_true rfl) (Nat.le_of_ble_eq_true rfl) e0_15 e0_17 hP hD hS (fun q2 H locs hP hD hS => ?_)
  refine lv_aload_n hx hb e0_20 rfl (lv_at hl 0 rfl) ?_
  refine lv_bipush (v := 10) hx hb e0_21 (by decide) ?_
  refine cr_np (n := 10) (N := 10) (k := 4) (idx := 18) (ci := 0) (kt := 0) (CC := RX0) (T := TX0) (NN := 7) (tyE := .int) hx hb hts hown hin hK hA rfl inX0 tyX0 tyX0_ok nmX0 f0_18 (by decide) rfl rfl rfl (Nat.le_of_ble_eq_true rfl) in_aI rfl rfl (fun _ _ h => h) (fun _ => rfl) (fun _ => rfl) (fun _ => rfl) (by decide) rfl (by decide) (Nat.le_of_ble_eq_true rfl) (Nat.le_of_ble_eq_true rfl) e0_23 e0_25 hP hD hS (fun q3 H locs hP hD hS => ?_)
  refine lv_aload_n hx hb e0_28 rfl (lv_at hl 0 rfl) ?_
  refine lv_bipush (v := 10) hx hb e0_29 (by decide) ?_
  refine cr_np (n := 10) (N := 10) (k := 5) (idx := 21) (ci := 0) (kt := 0) (CC := RX0) (T := TX0) (NN := 7) (tyE := .int) hx hb hts hown hin hK hA rfl inX0 tyX0 tyX0_ok nmX0 f0_21 (by decide) rfl rfl rfl (Nat.le_of_ble_eq_true rfl) in_aI rfl rfl (fun _ _ h => h) (fun _ => rfl) (fun _ => rfl) (fun _ => rfl) (by decide) rfl (by decide) (Nat.le_of_ble_eq_true rfl) (Nat.le_of_ble_eq_true rfl) e0_31 e0_33 hP hD hS (fun q4 H locs hP hD hS => ?_)
  refine lv_aload_n hx hb e0_36 rfl (lv_at hl 0 rfl) ?_
  refine lv_bipush (v := 10) hx hb e0_37 (by decide) ?_
  refine cr_np (n := 10) (N := 10) (k := 6) (idx := 24) (ci := 0) (kt := 0) (CC := RX0) (T := TX0) (NN := 7) (tyE := .int) hx hb hts hown hin hK hA rfl inX0 tyX0 tyX0_ok nmX0 f0_24 (by decide) rfl rfl rfl (Nat.le_of_ble_eq_true rfl) in_aI rfl rfl (fun _ _ h => h) (fun _ => rfl) (fun _ => rfl) (fun _ => rfl) (by decide) rfl (by decide) (Nat.le_of_ble_eq_true rfl) (Nat.le_of_ble_eq_true rfl) e0_39 e0_41 hP hD hS (fun q5 H locs hP hD hS => ?_)
  refine lv_aload_n hx hb e0_44 rfl (lv_at hl 0 rfl) ?_
  refine lv_aload_n hx hb e0_45 rfl (lv_at hl 1 rfl) ?_
  refine cr_pf (v := .ref hq) (k := 1) (idx := 27) (ci := 0) (CC := RX0) (T := TX0) (NN := 7) (ty := tyX0 1) hx hb hts hown hin hK rfl inX0 tyX0 tyX0_ok nmX0 f0_27 (by decide) rfl rfl rfl rfl rfl (Nat.le_of_ble_eq_true rfl) e0_46 hP hD hS (fun H locs hP hD hS => ?_)
  refine W.widen (k := 5) (n := 50) (by decide) (by decide) ?_
  exact W.vret hx hb hr (fun t ht hW => ⟨⟨(fun j => match j with | 1 => q1 | 2 => q2 | 3 => q3 | 4 => q4 | 5 => q5 | _ => 0), rfl, trivial, by rw [ht]; exact hP, hD⟩, hS.F ht⟩) hS.2.2 e0_49
abbrev wf9 (cI cZ : ClassId) (h0 hq : Nat) (ad : Nat → Nat) : va_W := [(h0, .inr (1, [.ref (ad 1), .ref (ad 2), .ref (ad 3), .ref (ad 4), .int 0, .ref hq, .ref (ad 5)])), ((ad 1), aZ cI 10), ((ad 2), aZ cI 10), ((ad 3), aZ cI 10), ((ad 4), aZ cI 10), ((ad 5), aZ cI 10)]
set_option maxHeartbeats 4000000 in
set_option maxRecDepth 100000 in
theorem k_9 (l : Launch) (D : va_G) (cI cZ cG : ClassId) (ad0 : Nat → Nat) (fm : Value) (h0 hq sz : Nat) : Met l (my 9) (wz 9) (rmC 9 5 50) (va_Pc [.ref h0, .ref hq] (PreC D cI cZ cG ad0 fm [(h0, .inr (1, [.null, .null, .null, .null, .int 0, .null, .null]))] sz)) (va_Qv (S := Nat → Nat) (fun _ => True) (PostC D (va_A [(h0, .inr (1, [.null, .null, .null, .null, .int 0, .null, .null]))] sz) (wf9 cI cZ h0 hq)) (va_A [(h0, .inr (1, [.null, .null, .null, .null, .int 0, .null, .null]))] sz)) 5 50 (va_A [(h0, .inr (1, [.null, .null, .null, .null, .int 0, .null, .null]))] sz) := by
  refine met_ofW (cc := mb 9) (maxL := mL 9) (ret := mr 9) (by decide +kernel) rfl ?_
  intro p e s m args below meth c s₁ B hml hv
  obtain ⟨rfl, hsz, hP, hD0, hE⟩ := hv
  subst hsz
  have hx := B.exec
  have hb := B.bytes
  have hr := B.returns
  have hts0 := atoms_spec (ws := wz 9) B.pre
  have hts : ∀ w ∈ gtb, w.before ([.ref h0, .ref hq] : List Value).toArray s = true := fun w hw => hts0 w (List.mem_cons_of_mem _ hw)
  have hown : s.vm.findClass (cnm (mo 9)) = some m.cls := findClass_of_methodNamed B.named
  have hlocks := B.notSynchronized
  have hin : meth.name = "<init>" := (name_of_methodNamed B.named B.method).1
  have hK := hE.1
  have hD := hD0.self (sz := s.heap.size)
  generalize hAe : va_A [(h0, .inr (1, [.null, .null, .null, .null, .int 0, .null, .null]))] s.heap.size = A at hD hE ⊢
  have hA : ∀ q : Nat, s.heap.size ≤ q → A q := fun q h => by rw [← hAe]; exact Or.inr h
  have hS : va_S A s.heap s.heap [] := va_S.rf
  have hl := lv_entry ([.ref h0, .ref hq]) (n := 2) (Nat.le_of_ble_eq_true rfl)
  rw [show mL 9 = 2 from rfl, lg_entry_eq]
  generalize (lg_sl ([.ref h0, .ref hq]) ++ List.replicate (2 - (lg_sl ([.ref h0, .ref hq])).length) Slot.unset).toArray = ls at hl ⊢
  have hl : lv_has ls 2 [(0, .ref h0), (1, .ref hq)] := hl
  refine lv_aload_n hx hb e9_0 rfl (lv_at hl 0 rfl) ?_
  refine W.objInit hx hb hown (hts _ in_ol9) (hts _ in_oi) (hts _ in_oc) rfl (by rw [hml]; exact hl.1) rfl e9_1 (Nat.le_of_ble_eq_true rfl) (Nat.le_of_ble_eq_true rfl) ?_
  refine W.eq (g2 := F0 m 4 ls []) rfl ?_
  refine lv_aload_n hx hb e9_4 rfl (lv_at hl 0 rfl) ?_
  refine lv_bipush (v := 10) hx hb e9_5 (by decide) ?_
  refine cr_np (n := 10) (N := 10) (k := 0) (idx := 9) (ci := 1) (kt := 0) (CC := RX1) (T := TX1) (NN := 7) (tyE := .int) hx hb hts hown hin hK hA rfl inX1 tyX1 tyX1_ok nmX1 f1_9 (by decide) rfl rfl rfl (Nat.le_of_ble_eq_true rfl) in_aI rfl rfl (fun _ _ h => h) (fun _ => rfl) (fun _ => rfl) (fun _ => rfl) (by decide) rfl (by decide) (Nat.le_of_ble_eq_true rfl) (Nat.le_of_ble_eq_true rfl) e9_7 e9_9 hP hD hS (fun q1 H locs hP hD hS => ?_)
  refine lv_aload_n hx hb e9_12 rfl (lv_at hl 0 rfl) ?_
  refine lv_bipush (v := 10) hx hb e9_13 (by decide) ?_
  refine cr_np (n := 10) (N := 10) (k := 1) (idx := 15) (ci := 1) (kt := 0) (CC := RX1) (T := TX1) (NN := 7) (tyE := .int) hx hb hts hown hin hK hA rfl inX1 tyX1 tyX1_ok nmX1 f1_15 (by decide) rfl rfl rfl (Nat.le_of_ble_eq_true rfl) in_aI rfl rfl (fun _ _ h => h) (fun _ => rfl) (fun _ => rfl) (fun _ => rfl) (by decide) rfl (by decide) (Nat.le_of_ble_eq_true rfl) (Nat.le_of_ble_eq_true rfl) e9_15 e9_17 hP hD hS (fun q2 H locs hP hD hS => ?_)
  refine lv_aload_n hx hb e9_20 rfl (lv_at hl 0 rfl) ?_
  refine lv_bipush (v := 10) hx hb e9_21 (by decide) ?_
  refine cr_np (n := 10) (N := 10) (k := 2) (idx := 18) (ci := 1) (kt := 0) (CC := RX1) (T := TX1) (NN := 7) (tyE := .int) hx hb hts hown hin hK hA rfl inX1 tyX1 tyX1_ok nmX1 f1_18 (by decide) rfl rfl rfl (Nat.le_of_ble_eq_true rfl) in_aI rfl rfl (fun _ _ h => h) (fun _ => rfl) (fun _ => rfl) (fun _ => rfl) (by decide) rfl (by decide) (Nat.le_of_ble_eq_true rfl) (Nat.le_of_ble_eq_true rfl) e9_23 e9_25 hP hD hS (fun q3 H locs hP hD hS => ?_)
  refine lv_aload_n hx hb e9_28 rfl (lv_at hl 0 rfl) ?_
  refine lv_bipush (v := 10) hx hb e9_29 (by decide) ?_
  refine cr_np (n := 10) (N := 10) (k := 3) (idx := 21) (ci := 1) (kt := 0) (CC := RX1) (T := TX1) (NN := 7) (tyE := .int) hx hb hts hown hin hK hA rfl inX1 tyX1 tyX1_ok nmX1 f1_21 (by decide) rfl rfl rfl (Nat.le_of_ble_eq_true rfl) in_aI rfl rfl (fun _ _ h => h) (fun _ => rfl) (fun _ => rfl) (fun _ => rfl) (by decide) rfl (by decide) (Nat.le_of_ble_eq_true rfl) (Nat.le_of_ble_eq_true rfl) e9_31 e9_33 hP hD hS (fun q4 H locs hP hD hS => ?_)
  refine lv_aload_n hx hb e9_36 rfl (lv_at hl 0 rfl) ?_
  refine lv_bipush (v := 10) hx hb e9_37 (by decide) ?_
  refine cr_np (n := 10) (N := 10) (k := 6) (idx := 24) (ci := 1) (kt := 0) (CC := RX1) (T := TX1) (NN := 7) (tyE := .int) hx hb hts hown hin hK hA rfl inX1 tyX1 tyX1_ok nmX1 f1_24 (by decide) rfl rfl rfl (Nat.le_of_ble_eq_true rfl) in_aI rfl rfl (fun _ _ h => h) (fun _ => rfl) (fun _ => rfl) (fun _ => rfl) (by decide) rfl (by decide) (Nat.le_of_ble_eq_true rfl) (Nat.le_of_ble_eq_true rfl) e9_39 e9_41 hP hD hS (fun q5 H locs hP hD hS => ?_)
  refine lv_aload_n hx hb e9_44 rfl (lv_at hl 0 rfl) ?_
  refine lv_aload_n hx hb e9_45 rfl (lv_at hl 1 rfl) ?_
  refine cr_pf (v := .ref hq) (k := 5) (idx := 27) (ci := 1) (CC := RX1) (T := TX1) (NN := 7) (ty := tyX1 5) hx hb hts hown hin hK rfl inX1 tyX1 tyX1_ok nmX1 f1_27 (by decide) rfl rfl rfl rfl rfl (Nat.le_of_ble_eq_true rfl) e9_46 hP hD hS (fun H locs hP hD hS => ?_)
  refine W.widen (k := 5) (n := 50) (by decide) (by decide) ?_
  exact W.vret hx hb hr (fun t ht hW => ⟨⟨(fun j => match j with | 1 => q1 | 2 => q2 | 3 => q3 | 4 => q4 | 5 => q5 | _ => 0), rfl, trivial, by rw [ht]; exact hP, hD⟩, hS.F ht⟩) hS.2.2 e9_49
abbrev wf40 (cI cZ : ClassId) (h0 hq : Nat) (ad : Nat → Nat) : va_W := [(h0, .inr (3, [.int 0, .ref hq, .ref (ad 1), .ref (ad 2), .int 0, .int 0, .int 0, .int 0, .int 0, .int 0, .int 0, .int 0])), ((ad 1), aZ cI 10), ((ad 2), aZ cI 50)]
set_option maxHeartbeats 4000000 in
set_option maxRecDepth 100000 in
theorem k_40 (l : Launch) (D : va_G) (cI cZ cG : ClassId) (ad0 : Nat → Nat) (fm : Value) (h0 hq sz : Nat) : Met l (my 40) (wz 40) (rmC 40 2 60) (va_Pc [.ref h0, .ref hq] (PreC D cI cZ cG ad0 fm [(h0, .inr (3, [.int 0, .null, .null, .null, .int 0, .int 0, .int 0, .int 0, .int 0, .int 0, .int 0, .int 0]))] sz)) (va_Qv (S := Nat → Nat) (fun _ => True) (PostC D (va_A [(h0, .inr (3, [.int 0, .null, .null, .null, .int 0, .int 0, .int 0, .int 0, .int 0, .int 0, .int 0, .int 0]))] sz) (wf40 cI cZ h0 hq)) (va_A [(h0, .inr (3, [.int 0, .null, .null, .null, .int 0, .int 0, .int 0, .int 0, .int 0, .int 0, .int 0, .int 0]))] sz)) 2 60 (va_A [(h0, .inr (3, [.int 0, .null, .null, .null, .int 0, .int 0, .int 0, .int 0, .int 0, .int 0, .int 0, .int 0]))] sz) := by
  refine met_ofW (cc := mb 40) (maxL := mL 40) (ret := mr 40) (by decide +kernel) rfl ?_
  intro p e s m args below meth c s₁ B hml hv
  obtain ⟨rfl, hsz, hP, hD0, hE⟩ := hv
  subst hsz
  have hx := B.exec
  have hb := B.bytes
  have hr := B.returns
  have hts0 := atoms_spec (ws := wz 40) B.pre
  have hts : ∀ w ∈ gtb, w.before ([.ref h0, .ref hq] : List Value).toArray s = true := fun w hw => hts0 w (List.mem_cons_of_mem _ hw)
  have hown : s.vm.findClass (cnm (mo 40)) = some m.cls := findClass_of_methodNamed B.named
  have hlocks := B.notSynchronized
  have hin : meth.name = "<init>" := (name_of_methodNamed B.named B.method).1
  have hK := hE.1
  have hD := hD0.self (sz := s.heap.size)
  generalize hAe : va_A [(h0, .inr (3, [.int 0, .null, .null, .null, .int 0, .int 0, .int 0, .int 0, .int 0, .int 0, .int 0, .int 0]))] s.heap.size = A at hD hE ⊢
  have hA : ∀ q : Nat, s.heap.size ≤ q → A q := fun q h => by rw [← hAe]; exact Or.inr h
  have hS : va_S A s.heap s.heap [] := va_S.rf
  have hl := lv_entry ([.ref h0, .ref hq]) (n := 2) (Nat.le_of_ble_eq_true rfl)
  rw [show mL 40 = 2 from rfl, lg_entry_eq]
  generalize (lg_sl ([.ref h0, .ref hq]) ++ List.replicate (2 - (lg_sl ([.ref h0, .ref hq])).length) Slot.unset).toArray = ls at hl ⊢
  have hl : lv_has ls 2 [(0, .ref h0), (1, .ref hq)] := hl
  refine lv_aload_n hx hb e40_0 rfl (lv_at hl 0 rfl) ?_
  refine W.objInit hx hb hown (hts _ in_ol40) (hts _ in_oi) (hts _ in_oc) rfl (by rw [hml]; exact hl.1) rfl e40_1 (Nat.le_of_ble_eq_true rfl) (Nat.le_of_ble_eq_true rfl) ?_
  refine W.eq (g2 := F0 m 4 ls []) rfl ?_
  refine lv_aload_n hx hb e40_4 rfl (lv_at hl 0 rfl) ?_
  refine lv_bipush (v := 10) hx hb e40_5 (by decide) ?_
  refine cr_np (n := 10) (N := 10) (k := 2) (idx := 9) (ci := 3) (kt := 0) (CC := RX3) (T := TX3) (NN := 12) (tyE := .int) hx hb hts hown hin hK hA rfl inX3 tyX3 tyX3_ok nmX3 f3_9 (by decide) rfl rfl rfl (Nat.le_of_ble_eq_true rfl) in_aI rfl rfl (fun _ _ h => h) (fun _ => rfl) (fun _ => rfl) (fun _ => rfl) (by decide) rfl (by decide) (Nat.le_of_ble_eq_true rfl) (Nat.le_of_ble_eq_true rfl) e40_7 e40_9 hP hD hS (fun q1 H locs hP hD hS => ?_)
  refine lv_aload_n hx hb e40_12 rfl (lv_at hl 0 rfl) ?_
  refine lv_bipush (v := 50) hx hb e40_13 (by decide) ?_
  refine cr_np (n := 50) (N := 50) (k := 3) (idx := 15) (ci := 3) (kt := 0) (CC := RX3) (T := TX3) (NN := 12) (tyE := .int) hx hb hts hown hin hK hA rfl inX3 tyX3 tyX3_ok nmX3 f3_15 (by decide) rfl rfl rfl (Nat.le_of_ble_eq_true rfl) in_aI rfl rfl (fun _ _ h => h) (fun _ => rfl) (fun _ => rfl) (fun _ => rfl) (by decide) rfl (by decide) (Nat.le_of_ble_eq_true rfl) (Nat.le_of_ble_eq_true rfl) e40_15 e40_17 hP hD hS (fun q2 H locs hP hD hS => ?_)
  refine lv_aload_n hx hb e40_20 rfl (lv_at hl 0 rfl) ?_
  refine lv_aload_n hx hb e40_21 rfl (lv_at hl 1 rfl) ?_
  refine cr_pf (v := .ref hq) (k := 1) (idx := 18) (ci := 3) (CC := RX3) (T := TX3) (NN := 12) (ty := tyX3 1) hx hb hts hown hin hK rfl inX3 tyX3 tyX3_ok nmX3 f3_18 (by decide) rfl rfl rfl rfl rfl (Nat.le_of_ble_eq_true rfl) e40_22 hP hD hS (fun H locs hP hD hS => ?_)
  refine W.widen (k := 2) (n := 60) (by decide) (by decide) ?_
  exact W.vret hx hb hr (fun t ht hW => ⟨⟨(fun j => match j with | 1 => q1 | 2 => q2 | _ => 0), rfl, trivial, by rw [ht]; exact hP, hD⟩, hS.F ht⟩) hS.2.2 e40_25
abbrev wf58 (cI cZ : ClassId) (h0 hq : Nat) (ad : Nat → Nat) : va_W := [(h0, .inr (4, [.int 0, .int 0, .int 0, .int 0, .int 0, .ref hq, .ref (ad 1), .ref (ad 2), .ref (ad 3), .ref (ad 4), .ref (ad 5)])), ((ad 1), aZ cI 6), ((ad 2), aZ cI 6), ((ad 3), aZ cI 6), ((ad 4), aZ cI 6), ((ad 5), aZ cI 6)]
set_option maxHeartbeats 4000000 in
set_option maxRecDepth 100000 in
theorem k_58 (l : Launch) (D : va_G) (cI cZ cG : ClassId) (ad0 : Nat → Nat) (fm : Value) (h0 hq sz : Nat) : Met l (my 58) (wz 58) (rmC 58 5 30) (va_Pc [.ref h0, .ref hq] (PreC D cI cZ cG ad0 fm [(h0, .inr (4, [.int 0, .int 0, .int 0, .int 0, .int 0, .null, .null, .null, .null, .null, .null]))] sz)) (va_Qv (S := Nat → Nat) (fun _ => True) (PostC D (va_A [(h0, .inr (4, [.int 0, .int 0, .int 0, .int 0, .int 0, .null, .null, .null, .null, .null, .null]))] sz) (wf58 cI cZ h0 hq)) (va_A [(h0, .inr (4, [.int 0, .int 0, .int 0, .int 0, .int 0, .null, .null, .null, .null, .null, .null]))] sz)) 5 30 (va_A [(h0, .inr (4, [.int 0, .int 0, .int 0, .int 0, .int 0, .null, .null, .null, .null, .null, .null]))] sz) := by
  refine met_ofW (cc := mb 58) (maxL := mL 58) (ret := mr 58) (by decide +kernel) rfl ?_
  intro p e s m args below meth c s₁ B hml hv
  obtain ⟨rfl, hsz, hP, hD0, hE⟩ := hv
  subst hsz
  have hx := B.exec
  have hb := B.bytes
  have hr := B.returns
  have hts0 := atoms_spec (ws := wz 58) B.pre
  have hts : ∀ w ∈ gtb, w.before ([.ref h0, .ref hq] : List Value).toArray s = true := fun w hw => hts0 w (List.mem_cons_of_mem _ hw)
  have hown : s.vm.findClass (cnm (mo 58)) = some m.cls := findClass_of_methodNamed B.named
  have hlocks := B.notSynchronized
  have hin : meth.name = "<init>" := (name_of_methodNamed B.named B.method).1
  have hK := hE.1
  have hD := hD0.self (sz := s.heap.size)
  generalize hAe : va_A [(h0, .inr (4, [.int 0, .int 0, .int 0, .int 0, .int 0, .null, .null, .null, .null, .null, .null]))] s.heap.size = A at hD hE ⊢
  have hA : ∀ q : Nat, s.heap.size ≤ q → A q := fun q h => by rw [← hAe]; exact Or.inr h
  have hS : va_S A s.heap s.heap [] := va_S.rf
  have hl := lv_entry ([.ref h0, .ref hq]) (n := 2) (Nat.le_of_ble_eq_true rfl)
  rw [show mL 58 = 2 from rfl, lg_entry_eq]
  generalize (lg_sl ([.ref h0, .ref hq]) ++ List.replicate (2 - (lg_sl ([.ref h0, .ref hq])).length) Slot.unset).toArray = ls at hl ⊢
  have hl : lv_has ls 2 [(0, .ref h0), (1, .ref hq)] := hl
  refine lv_aload_n hx hb e58_0 rfl (lv_at hl 0 rfl) ?_
  refine W.objInit hx hb hown (hts _ in_ol58) (hts _ in_oi) (hts _ in_oc) rfl (by rw [hml]; exact hl.1) rfl e58_1 (Nat.le_of_ble_eq_true rfl) (Nat.le_of_ble_eq_true rfl) ?_
  refine W.eq (g2 := F0 m 4 ls []) rfl ?_
  refine lv_aload_n hx hb e58_4 rfl (lv_at hl 0 rfl) ?_
  refine lv_bipush (v := 6) hx hb e58_5 (by decide) ?_
  refine cr_np (n := 6) (N := 6) (k := 6) (idx := 9) (ci := 4) (kt := 0) (CC := RX4) (T := TX4) (NN := 11) (tyE := .int) hx hb hts hown hin hK hA rfl inX4 tyX4 tyX4_ok nmX4 f4_9 (by decide) rfl rfl rfl (Nat.le_of_ble_eq_true rfl) in_aI rfl rfl (fun _ _ h => h) (fun _ => rfl) (fun _ => rfl) (fun _ => rfl) (by decide) rfl (by decide) (Nat.le_of_ble_eq_true rfl) (Nat.le_of_ble_eq_true rfl) e58_7 e58_9 hP hD hS (fun q1 H locs hP hD hS => ?_)
  refine lv_aload_n hx hb e58_12 rfl (lv_at hl 0 rfl) ?_
  refine lv_bipush (v := 6) hx hb e58_13 (by decide) ?_
  refine cr_np (n := 6) (N := 6) (k := 7) (idx := 15) (ci := 4) (kt := 0) (CC := RX4) (T := TX4) (NN := 11) (tyE := .int) hx hb hts hown hin hK hA rfl inX4 tyX4 tyX4_ok nmX4 f4_15 (by decide) rfl rfl rfl (Nat.le_of_ble_eq_true rfl) in_aI rfl rfl (fun _ _ h => h) (fun _ => rfl) (fun _ => rfl) (fun _ => rfl) (by decide) rfl (by decide) (Nat.le_of_ble_eq_true rfl) (Nat.le_of_ble_eq_true rfl) e58_15 e58_17 hP hD hS (fun q2 H locs hP hD hS => ?_)
  refine lv_aload_n hx hb e58_20 rfl (lv_at hl 0 rfl) ?_
  refine lv_bipush (v := 6) hx hb e58_21 (by decide) ?_
  refine cr_np (n := 6) (N := 6) (k := 8) (idx := 18) (ci := 4) (kt := 0) (CC := RX4) (T := TX4) (NN := 11) (tyE := .int) hx hb hts hown hin hK hA rfl inX4 tyX4 tyX4_ok nmX4 f4_18 (by decide) rfl rfl rfl (Nat.le_of_ble_eq_true rfl) in_aI rfl rfl (fun _ _ h => h) (fun _ => rfl) (fun _ => rfl) (fun _ => rfl) (by decide) rfl (by decide) (Nat.le_of_ble_eq_true rfl) (Nat.le_of_ble_eq_true rfl) e58_23 e58_25 hP hD hS (fun q3 H locs hP hD hS => ?_)
  refine lv_aload_n hx hb e58_28 rfl (lv_at hl 0 rfl) ?_
  refine lv_bipush (v := 6) hx hb e58_29 (by decide) ?_
  refine cr_np (n := 6) (N := 6) (k := 9) (idx := 21) (ci := 4) (kt := 0) (CC := RX4) (T := TX4) (NN := 11) (tyE := .int) hx hb hts hown hin hK hA rfl inX4 tyX4 tyX4_ok nmX4 f4_21 (by decide) rfl rfl rfl (Nat.le_of_ble_eq_true rfl) in_aI rfl rfl (fun _ _ h => h) (fun _ => rfl) (fun _ => rfl) (fun _ => rfl) (by decide) rfl (by decide) (Nat.le_of_ble_eq_true rfl) (Nat.le_of_ble_eq_true rfl) e58_31 e58_33 hP hD hS (fun q4 H locs hP hD hS => ?_)
  refine lv_aload_n hx hb e58_36 rfl (lv_at hl 0 rfl) ?_
  refine lv_bipush (v := 6) hx hb e58_37 (by decide) ?_
  refine cr_np (n := 6) (N := 6) (k := 10) (idx := 24) (ci := 4) (kt := 0) (CC := RX4) (T := TX4) (NN := 11) (tyE := .int) hx hb hts hown hin hK hA rfl inX4 tyX4 tyX4_ok nmX4 f4_24 (by decide) rfl rfl rfl (Nat.le_of_ble_eq_true rfl) in_aI rfl rfl (fun _ _ h => h) (fun _ => rfl) (fun _ => rfl) (fun _ => rfl) (by decide) rfl (by decide) (Nat.le_of_ble_eq_true rfl) (Nat.le_of_ble_eq_true rfl) e58_39 e58_41 hP hD hS (fun q5 H locs hP hD hS => ?_)
  refine lv_aload_n hx hb e58_44 rfl (lv_at hl 0 rfl) ?_
  refine lv_aload_n hx hb e58_45 rfl (lv_at hl 1 rfl) ?_
  refine cr_pf (v := .ref hq) (k := 5) (idx := 27) (ci := 4) (CC := RX4) (T := TX4) (NN := 11) (ty := tyX4 5) hx hb hts hown hin hK rfl inX4 tyX4 tyX4_ok nmX4 f4_27 (by decide) rfl rfl rfl rfl rfl (Nat.le_of_ble_eq_true rfl) e58_46 hP hD hS (fun H locs hP hD hS => ?_)
  refine W.widen (k := 5) (n := 30) (by decide) (by decide) ?_
  exact W.vret hx hb hr (fun t ht hW => ⟨⟨(fun j => match j with | 1 => q1 | 2 => q2 | 3 => q3 | 4 => q4 | 5 => q5 | _ => 0), rfl, trivial, by rw [ht]; exact hP, hD⟩, hS.F ht⟩) hS.2.2 e58_49
abbrev wf62 (cI cZ : ClassId) (h0 hq : Nat) (ad : Nat → Nat) : va_W := [(h0, .inr (5, [.int 0, .ref hq, .ref (ad 1), .ref (ad 2), .ref (ad 3)])), ((ad 1), aZ cI 12), ((ad 2), aZ cI 12), ((ad 3), aZ cI 12)]
set_option maxHeartbeats 4000000 in
set_option maxRecDepth 100000 in
theorem k_62 (l : Launch) (D : va_G) (cI cZ cG : ClassId) (ad0 : Nat → Nat) (fm : Value) (h0 hq sz : Nat) : Met l (my 62) (wz 62) (rmC 62 3 36) (va_Pc [.ref h0, .ref hq] (PreC D cI cZ cG ad0 fm [(h0, .inr (5, [.int 0, .null, .null, .null, .null]))] sz)) (va_Qv (S := Nat → Nat) (fun _ => True) (PostC D (va_A [(h0, .inr (5, [.int 0, .null, .null, .null, .null]))] sz) (wf62 cI cZ h0 hq)) (va_A [(h0, .inr (5, [.int 0, .null, .null, .null, .null]))] sz)) 3 36 (va_A [(h0, .inr (5, [.int 0, .null, .null, .null, .null]))] sz) := by
  refine met_ofW (cc := mb 62) (maxL := mL 62) (ret := mr 62) (by decide +kernel) rfl ?_
  intro p e s m args below meth c s₁ B hml hv
  obtain ⟨rfl, hsz, hP, hD0, hE⟩ := hv
  subst hsz
  have hx := B.exec
  have hb := B.bytes
  have hr := B.returns
  have hts0 := atoms_spec (ws := wz 62) B.pre
  have hts : ∀ w ∈ gtb, w.before ([.ref h0, .ref hq] : List Value).toArray s = true := fun w hw => hts0 w (List.mem_cons_of_mem _ hw)
  have hown : s.vm.findClass (cnm (mo 62)) = some m.cls := findClass_of_methodNamed B.named
  have hlocks := B.notSynchronized
  have hin : meth.name = "<init>" := (name_of_methodNamed B.named B.method).1
  have hK := hE.1
  have hD := hD0.self (sz := s.heap.size)
  generalize hAe : va_A [(h0, .inr (5, [.int 0, .null, .null, .null, .null]))] s.heap.size = A at hD hE ⊢
  have hA : ∀ q : Nat, s.heap.size ≤ q → A q := fun q h => by rw [← hAe]; exact Or.inr h
  have hS : va_S A s.heap s.heap [] := va_S.rf
  have hl := lv_entry ([.ref h0, .ref hq]) (n := 2) (Nat.le_of_ble_eq_true rfl)
  rw [show mL 62 = 2 from rfl, lg_entry_eq]
  generalize (lg_sl ([.ref h0, .ref hq]) ++ List.replicate (2 - (lg_sl ([.ref h0, .ref hq])).length) Slot.unset).toArray = ls at hl ⊢
  have hl : lv_has ls 2 [(0, .ref h0), (1, .ref hq)] := hl
  refine lv_aload_n hx hb e62_0 rfl (lv_at hl 0 rfl) ?_
  refine W.objInit hx hb hown (hts _ in_ol62) (hts _ in_oi) (hts _ in_oc) rfl (by rw [hml]; exact hl.1) rfl e62_1 (Nat.le_of_ble_eq_true rfl) (Nat.le_of_ble_eq_true rfl) ?_
  refine W.eq (g2 := F0 m 4 ls []) rfl ?_
  refine lv_aload_n hx hb e62_4 rfl (lv_at hl 0 rfl) ?_
  refine lv_bipush (v := 12) hx hb e62_5 (by decide) ?_
  refine cr_np (n := 12) (N := 12) (k := 2) (idx := 9) (ci := 5) (kt := 0) (CC := RX5) (T := TX5) (NN := 5) (tyE := .int) hx hb hts hown hin hK hA rfl inX5 tyX5 tyX5_ok nmX5 f5_9 (by decide) rfl rfl rfl (Nat.le_of_ble_eq_true rfl) in_aI rfl rfl (fun _ _ h => h) (fun _ => rfl) (fun _ => rfl) (fun _ => rfl) (by decide) rfl (by decide) (Nat.le_of_ble_eq_true rfl) (Nat.le_of_ble_eq_true rfl) e62_7 e62_9 hP hD hS (fun q1 H locs hP hD hS => ?_)
  refine lv_aload_n hx hb e62_12 rfl (lv_at hl 0 rfl) ?_
  refine lv_bipush (v := 12) hx hb e62_13 (by decide) ?_
  refine cr_np (n := 12) (N := 12) (k := 3) (idx := 15) (ci := 5) (kt := 0) (CC := RX5) (T := TX5) (NN := 5) (tyE := .int) hx hb hts hown hin hK hA rfl inX5 tyX5 tyX5_ok nmX5 f5_15 (by decide) rfl rfl rfl (Nat.le_of_ble_eq_true rfl) in_aI rfl rfl (fun _ _ h => h) (fun _ => rfl) (fun _ => rfl) (fun _ => rfl) (by decide) rfl (by decide) (Nat.le_of_ble_eq_true rfl) (Nat.le_of_ble_eq_true rfl) e62_15 e62_17 hP hD hS (fun q2 H locs hP hD hS => ?_)
  refine lv_aload_n hx hb e62_20 rfl (lv_at hl 0 rfl) ?_
  refine lv_bipush (v := 12) hx hb e62_21 (by decide) ?_
  refine cr_np (n := 12) (N := 12) (k := 4) (idx := 18) (ci := 5) (kt := 0) (CC := RX5) (T := TX5) (NN := 5) (tyE := .int) hx hb hts hown hin hK hA rfl inX5 tyX5 tyX5_ok nmX5 f5_18 (by decide) rfl rfl rfl (Nat.le_of_ble_eq_true rfl) in_aI rfl rfl (fun _ _ h => h) (fun _ => rfl) (fun _ => rfl) (fun _ => rfl) (by decide) rfl (by decide) (Nat.le_of_ble_eq_true rfl) (Nat.le_of_ble_eq_true rfl) e62_23 e62_25 hP hD hS (fun q3 H locs hP hD hS => ?_)
  refine lv_aload_n hx hb e62_28 rfl (lv_at hl 0 rfl) ?_
  refine lv_aload_n hx hb e62_29 rfl (lv_at hl 1 rfl) ?_
  refine cr_pf (v := .ref hq) (k := 1) (idx := 21) (ci := 5) (CC := RX5) (T := TX5) (NN := 5) (ty := tyX5 1) hx hb hts hown hin hK rfl inX5 tyX5 tyX5_ok nmX5 f5_21 (by decide) rfl rfl rfl rfl rfl (Nat.le_of_ble_eq_true rfl) e62_30 hP hD hS (fun H locs hP hD hS => ?_)
  refine W.widen (k := 3) (n := 36) (by decide) (by decide) ?_
  exact W.vret hx hb hr (fun t ht hW => ⟨⟨(fun j => match j with | 1 => q1 | 2 => q2 | 3 => q3 | _ => 0), rfl, trivial, by rw [ht]; exact hP, hD⟩, hS.F ht⟩) hS.2.2 e62_33
abbrev wf68 (cI cZ : ClassId) (h0 : Nat) (ad : Nat → Nat) : va_W := [(h0, .inr (6, [.ref (ad 1), .int 0])), ((ad 1), aZ cI 200)]
set_option maxHeartbeats 4000000 in
set_option maxRecDepth 100000 in
theorem k_68 (l : Launch) (D : va_G) (cI cZ cG : ClassId) (ad0 : Nat → Nat) (fm : Value) (h0 sz : Nat) : Met l (my 68) (wz 68) (rmC 68 1 200) (va_Pc [.ref h0] (PreC D cI cZ cG ad0 fm [(h0, .inr (6, [.null, .int 0]))] sz)) (va_Qv (S := Nat → Nat) (fun _ => True) (PostC D (va_A [(h0, .inr (6, [.null, .int 0]))] sz) (wf68 cI cZ h0)) (va_A [(h0, .inr (6, [.null, .int 0]))] sz)) 1 200 (va_A [(h0, .inr (6, [.null, .int 0]))] sz) := by
  refine met_ofW (cc := mb 68) (maxL := mL 68) (ret := mr 68) (by decide +kernel) rfl ?_
  intro p e s m args below meth c s₁ B hml hv
  obtain ⟨rfl, hsz, hP, hD0, hE⟩ := hv
  subst hsz
  have hx := B.exec
  have hb := B.bytes
  have hr := B.returns
  have hts0 := atoms_spec (ws := wz 68) B.pre
  have hts : ∀ w ∈ gtb, w.before ([.ref h0] : List Value).toArray s = true := fun w hw => hts0 w (List.mem_cons_of_mem _ hw)
  have hown : s.vm.findClass (cnm (mo 68)) = some m.cls := findClass_of_methodNamed B.named
  have hlocks := B.notSynchronized
  have hin : meth.name = "<init>" := (name_of_methodNamed B.named B.method).1
  have hK := hE.1
  have hD := hD0.self (sz := s.heap.size)
  generalize hAe : va_A [(h0, .inr (6, [.null, .int 0]))] s.heap.size = A at hD hE ⊢
  have hA : ∀ q : Nat, s.heap.size ≤ q → A q := fun q h => by rw [← hAe]; exact Or.inr h
  have hS : va_S A s.heap s.heap [] := va_S.rf
  have hl := lv_entry ([.ref h0]) (n := 1) (Nat.le_of_ble_eq_true rfl)
  rw [show mL 68 = 1 from rfl, lg_entry_eq]
  generalize (lg_sl ([.ref h0]) ++ List.replicate (1 - (lg_sl ([.ref h0])).length) Slot.unset).toArray = ls at hl ⊢
  have hl : lv_has ls 1 [(0, .ref h0)] := hl
  refine lv_aload_n hx hb e68_0 rfl (lv_at hl 0 rfl) ?_
  refine W.objInit hx hb hown (hts _ in_ol68) (hts _ in_oi) (hts _ in_oc) rfl (by rw [hml]; exact hl.1) rfl e68_1 (Nat.le_of_ble_eq_true rfl) (Nat.le_of_ble_eq_true rfl) ?_
  refine W.eq (g2 := F0 m 4 ls []) rfl ?_
  refine lv_aload_n hx hb e68_4 rfl (lv_at hl 0 rfl) ?_
  refine lv_sipush (v := 200) hx hb e68_5 (by decide) ?_
  refine cr_np (n := 200) (N := 200) (k := 0) (idx := 9) (ci := 6) (kt := 0) (CC := RX6) (T := TX6) (NN := 2) (tyE := .int) hx hb hts hown hin hK hA rfl inX6 tyX6 tyX6_ok nmX6 f6_9 (by decide) rfl rfl rfl (Nat.le_of_ble_eq_true rfl) in_aI rfl rfl (fun _ _ h => h) (fun _ => rfl) (fun _ => rfl) (fun _ => rfl) (by decide) rfl (by decide) (Nat.le_of_ble_eq_true rfl) (Nat.le_of_ble_eq_true rfl) e68_8 e68_10 hP hD hS (fun q1 H locs hP hD hS => ?_)
  refine W.widen (k := 1) (n := 200) (by decide) (by decide) ?_
  exact W.vret hx hb hr (fun t ht hW => ⟨⟨(fun j => match j with | 1 => q1 | _ => 0), rfl, trivial, by rw [ht]; exact hP, hD⟩, hS.F ht⟩) hS.2.2 e68_13
abbrev wf71 (cI cZ : ClassId) (h0 hq : Nat) (ad : Nat → Nat) : va_W := [(h0, .inr (7, [.int 0, .int 0, .int 0, .int 0, .ref hq, .ref (ad 1)])), ((ad 1), aZ cI 12)]
set_option maxHeartbeats 4000000 in
set_option maxRecDepth 100000 in
theorem k_71 (l : Launch) (D : va_G) (cI cZ cG : ClassId) (ad0 : Nat → Nat) (fm : Value) (h0 hq sz : Nat) : Met l (my 71) (wz 71) (rmC 71 1 12) (va_Pc [.ref h0, .ref hq] (PreC D cI cZ cG ad0 fm [(h0, .inr (7, [.int 0, .int 0, .int 0, .int 0, .null, .null]))] sz)) (va_Qv (S := Nat → Nat) (fun _ => True) (PostC D (va_A [(h0, .inr (7, [.int 0, .int 0, .int 0, .int 0, .null, .null]))] sz) (wf71 cI cZ h0 hq)) (va_A [(h0, .inr (7, [.int 0, .int 0, .int 0, .int 0, .null, .null]))] sz)) 1 12 (va_A [(h0, .inr (7, [.int 0, .int 0, .int 0, .int 0, .null, .null]))] sz) := by
  refine met_ofW (cc := mb 71) (maxL := mL 71) (ret := mr 71) (by decide +kernel) rfl ?_
  intro p e s m args below meth c s₁ B hml hv
  obtain ⟨rfl, hsz, hP, hD0, hE⟩ := hv
  subst hsz
  have hx := B.exec
  have hb := B.bytes
  have hr := B.returns
  have hts0 := atoms_spec (ws := wz 71) B.pre
  have hts : ∀ w ∈ gtb, w.before ([.ref h0, .ref hq] : List Value).toArray s = true := fun w hw => hts0 w (List.mem_cons_of_mem _ hw)
  have hown : s.vm.findClass (cnm (mo 71)) = some m.cls := findClass_of_methodNamed B.named
  have hlocks := B.notSynchronized
  have hin : meth.name = "<init>" := (name_of_methodNamed B.named B.method).1
  have hK := hE.1
  have hD := hD0.self (sz := s.heap.size)
  generalize hAe : va_A [(h0, .inr (7, [.int 0, .int 0, .int 0, .int 0, .null, .null]))] s.heap.size = A at hD hE ⊢
  have hA : ∀ q : Nat, s.heap.size ≤ q → A q := fun q h => by rw [← hAe]; exact Or.inr h
  have hS : va_S A s.heap s.heap [] := va_S.rf
  have hl := lv_entry ([.ref h0, .ref hq]) (n := 2) (Nat.le_of_ble_eq_true rfl)
  rw [show mL 71 = 2 from rfl, lg_entry_eq]
  generalize (lg_sl ([.ref h0, .ref hq]) ++ List.replicate (2 - (lg_sl ([.ref h0, .ref hq])).length) Slot.unset).toArray = ls at hl ⊢
  have hl : lv_has ls 2 [(0, .ref h0), (1, .ref hq)] := hl
  refine lv_aload_n hx hb e71_0 rfl (lv_at hl 0 rfl) ?_
  refine W.objInit hx hb hown (hts _ in_ol71) (hts _ in_oi) (hts _ in_oc) rfl (by rw [hml]; exact hl.1) rfl e71_1 (Nat.le_of_ble_eq_true rfl) (Nat.le_of_ble_eq_true rfl) ?_
  refine W.eq (g2 := F0 m 4 ls []) rfl ?_
  refine lv_aload_n hx hb e71_4 rfl (lv_at hl 0 rfl) ?_
  refine lv_bipush (v := 12) hx hb e71_5 (by decide) ?_
  refine cr_np (n := 12) (N := 12) (k := 5) (idx := 9) (ci := 7) (kt := 0) (CC := RX7) (T := TX7) (NN := 6) (tyE := .int) hx hb hts hown hin hK hA rfl inX7 tyX7 tyX7_ok nmX7 f7_9 (by decide) rfl rfl rfl (Nat.le_of_ble_eq_true rfl) in_aI rfl rfl (fun _ _ h => h) (fun _ => rfl) (fun _ => rfl) (fun _ => rfl) (by decide) rfl (by decide) (Nat.le_of_ble_eq_true rfl) (Nat.le_of_ble_eq_true rfl) e71_7 e71_9 hP hD hS (fun q1 H locs hP hD hS => ?_)
  refine lv_aload_n hx hb e71_12 rfl (lv_at hl 0 rfl) ?_
  refine lv_aload_n hx hb e71_13 rfl (lv_at hl 1 rfl) ?_
  refine cr_pf (v := .ref hq) (k := 4) (idx := 15) (ci := 7) (CC := RX7) (T := TX7) (NN := 6) (ty := tyX7 4) hx hb hts hown hin hK rfl inX7 tyX7 tyX7_ok nmX7 f7_15 (by decide) rfl rfl rfl rfl rfl (Nat.le_of_ble_eq_true rfl) e71_14 hP hD hS (fun H locs hP hD hS => ?_)
  refine W.widen (k := 1) (n := 12) (by decide) (by decide) ?_
  exact W.vret hx hb hr (fun t ht hW => ⟨⟨(fun j => match j with | 1 => q1 | _ => 0), rfl, trivial, by rw [ht]; exact hP, hD⟩, hS.F ht⟩) hS.2.2 e71_17
