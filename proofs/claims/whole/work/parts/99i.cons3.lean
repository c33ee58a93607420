/-! the constructor of MinuteBehind (wip/gen/gen_cons3.py) -/
theorem join_last {A0 : Nat → Prop} {D : va_G} {cl : List vw_C} {ws w1 : va_W} {x : Nat × va_E} {H H1 : Heap} (hP : va_P D cl (ws ++ [x]) H) (hD : va_D A0 (ws ++ [x])) (hk : ∀ q : Nat, q < H.size → ¬ va_A [x] H.size q → H1[q]? = H[q]?) (hF : ∀ q, va_A [x] H.size q → A0 q) (hP1 : va_P D cl w1 H1) (hD1 : va_D (va_A [x] H.size) w1) : va_P D cl (ws ++ w1) H1 ∧ va_D A0 (ws ++ w1) := by
  have left : ∀ (i : Nat) (y : Nat × va_E), ws[i]? = some y → (ws ++ [x])[i]? = some y := fun i y h => by
    rw [List.getElem?_append_left (List.getElem?_eq_some_iff.mp h).1]; exact h
  have hx : (ws ++ [x])[ws.length]? = some x := by simp
  have apart : ∀ (i : Nat) (y : Nat × va_E), ws[i]? = some y → y.1 < H.size ∧ ¬ va_A [x] H.size y.1 := by
    intro i y hy
    have hl := (hP i y (left i y hy)).lt
    refine ⟨hl, fun h => ?_⟩
    rcases h with ⟨k2, e, h⟩ | h
    · have hk2 : k2 < 1 := (List.getElem?_eq_some_iff.mp h).1
      rw [show k2 = 0 by omega] at h
      have hxe : x = (y.1, e) := Option.some.inj h
      have := hD.1 i ws.length y x (left i y hy) hx (by rw [hxe])
      have hi := (List.getElem?_eq_some_iff.mp hy).1
      omega
    · omega
  refine ⟨va_P.app (fun k q hq => ?_) hP1, va_D.app ⟨fun i j p q hp hq => hD.1 i j p q (left i p hp) (left j q hq), fun k q hq => hD.2 k q (left k q hq)⟩ (hD1.weaken (fun k q _ h => hF q.1 h)) (fun i j y w hy hw hyw => ?_)⟩
  · obtain ⟨g1, g2⟩ := apart k q hq
    exact (hP k q (left k q hq)).kept (hk q.1 g1 g2)
  · exact (apart i y hy).2 (by rw [hyw]; exact hD1.2 j w hw)
section CN
variable {p : Program} {l : Launch} {e : Env} {R : Room} {s : State} {m : MethodId} {args : Array Value} {below : List Frame} {meth : Method} {c : Code} {H : Heap} {locs : List Loc} {cells slots : Nat} {Q : State → Prop}
variable {D : va_G} {cI cZ cG : ClassId} {A : Nat → Prop} {ls : Array Slot} {pc : Nat} {ad : Nat → Nat} {fm : Value} {ws : va_W} {x : Nat × va_E}
theorem free_last (hD : va_D A (ws ++ [x])) (hS : va_S A s.heap H locs) (hA : ∀ q, s.heap.size ≤ q → A q) : ∀ q, va_A [x] H.size q → A q := by
  intro q h
  rcases h with ⟨k2, e, h⟩ | h
  · have hk2 : k2 < 1 := (List.getElem?_eq_some_iff.mp h).1
    rw [show k2 = 0 by omega] at h
    have hxe : x = (q, e) := Option.some.inj h
    have hx : (ws ++ [x])[ws.length]? = some x := by simp
    have := hD.2 ws.length x hx
    rw [hxe] at this
    exact this
  · exact hA q (Nat.le_trans hS.1 h)
/-- what a callee finds of the last cell -/
theorem pre_last (E : Ev D cI cZ cG ad fm A s) (hP : va_P D vwCl (ws ++ [x]) H) (hD : va_D A (ws ++ [x])) (hS : va_S A s.heap H locs) (hA : ∀ q, s.heap.size ≤ q → A q) (U : State) (hU : U.heap = H) (hW : s.WarmedH U.vm) : PreC D cI cZ cG ad fm [x] H.size U := by
  have hF := free_last hD hS hA
  have hx : (ws ++ [x])[ws.length]? = some x := by simp
  refine ⟨by rw [hU], ?_, ⟨fun i j p q hp hq _ => ?_, fun _ _ _ => trivial⟩, E.1.moved hW.alike, E.2.1, ?_, ?_, ?_, fun q hq => (E.2.2.2.2.2 q hq).warm hW⟩
  · rw [hU]
    intro k q hq
    have hk2 : k < 1 := (List.getElem?_eq_some_iff.mp hq).1
    rw [show k = 0 by omega] at hq
    have hxe : x = q := Option.some.inj hq
    rw [← hxe]
    exact hP ws.length x hx
  · have h1 : i < 1 := (List.getElem?_eq_some_iff.mp hp).1
    have h2 : j < 1 := (List.getElem?_eq_some_iff.mp hq).1
    omega
  · rw [hU]; exact ((E.2.2.1.kept hS.2.1).narrow hF).moved hW.alike
  · rw [hU]; exact ((E.2.2.2.1.kept hS.2.1).narrow hF).moved hW.alike
  · rw [hU]; exact ((E.2.2.2.2.1.kept hS.2.1).narrow hF).moved hW.alike
theorem cr_after {post : (Nat → Nat) → Prop} {Wf : (Nat → Nat) → va_W} {mc ms : Nat} {st0 rest : List Value} {a0 : Array Value}
    (hrun : va_Run p l e R s m args below meth c H locs cells slots mc ms (F0 m pc ls st0) rest (va_Qv (S := Nat → Nat) post (PostC D (va_A [x] H.size) Wf) (va_A [x] H.size) a0) (va_A [x] H.size))
    (hP : va_P D vwCl (ws ++ [x]) H) (hD : va_D A (ws ++ [x])) (hS : va_S A s.heap H locs) (hA : ∀ q, s.heap.size ≤ q → A q)
    (kk : ∀ (u : Nat → Nat) (H1 : Heap) (locs1 : List Loc), post u → va_P D vwCl (ws ++ Wf u) H1 → va_D A (ws ++ Wf u) → va_S A s.heap H1 locs1 → W p l e R s m args below meth c H1 locs1 (cells + mc) (slots + ms) Q (F0 m (pc + 3) ls rest)) :
    W p l e R s m args below meth c H locs cells slots Q (F0 m pc ls st0) := by
  have hF := free_last hD hS hA
  refine va_callv (S := Nat → Nat) (a := a0) hrun hS (fun q _ h => hF q h) hF (fun u t H1 locs1 ht hvm hw hB hz1 hk1 hS1 => ?_)
  obtain ⟨b1, b2⟩ := hB
  rw [ht] at b1
  obtain ⟨j1, j2⟩ := join_last hP hD hk1 hF b1 b2
  exact kk u H1 locs1 hw j1 j2 hS1
end CN
theorem in_cl23 : Cond.classLink (cnm (mo 80)) 7 (cnm 2) ∈ gtb := g_of (List.mem_of_getElem? (i := 77) (by decide +kernel)) rfl
theorem in_is23 : Cond.instantiable (cnm 2) 9 ∈ gtb := g_of (List.mem_of_getElem? (i := 78) (by decide +kernel)) rfl
theorem in_in23 : Cond.initialized (cnm 2) ∈ gtb := g_of (List.mem_of_getElem? (i := 53) (by decide +kernel)) rfl
theorem in_ml23 : Cond.methodLink (cnm (mo 80)) 9 (my 23) ∈ gtb := g_of (List.mem_of_getElem? (i := 79) (by decide +kernel)) rfl
theorem in_cl9 : Cond.classLink (cnm (mo 80)) 16 (cnm 1) ∈ gtb := g_of (List.mem_of_getElem? (i := 149) (by decide +kernel)) rfl
theorem in_is9 : Cond.instantiable (cnm 1) 7 ∈ gtb := g_of (List.mem_of_getElem? (i := 150) (by decide +kernel)) rfl
theorem in_in9 : Cond.initialized (cnm 1) ∈ gtb := g_of (List.mem_of_getElem? (i := 55) (by decide +kernel)) rfl
theorem in_ml9 : Cond.methodLink (cnm (mo 80)) 18 (my 9) ∈ gtb := g_of (List.mem_of_getElem? (i := 151) (by decide +kernel)) rfl
theorem in_cl58 : Cond.classLink (cnm (mo 80)) 25 (cnm 4) ∈ gtb := g_of (List.mem_of_getElem? (i := 182) (by decide +kernel)) rfl
theorem in_is58 : Cond.instantiable (cnm 4) 11 ∈ gtb := g_of (List.mem_of_getElem? (i := 183) (by decide +kernel)) rfl
theorem in_in58 : Cond.initialized (cnm 4) ∈ gtb := g_of (List.mem_of_getElem? (i := 56) (by decide +kernel)) rfl
theorem in_ml58 : Cond.methodLink (cnm (mo 80)) 27 (my 58) ∈ gtb := g_of (List.mem_of_getElem? (i := 184) (by decide +kernel)) rfl
theorem in_cl68 : Cond.classLink (cnm (mo 80)) 32 (cnm 6) ∈ gtb := g_of (List.mem_of_getElem? (i := 227) (by decide +kernel)) rfl
theorem in_is68 : Cond.instantiable (cnm 6) 2 ∈ gtb := g_of (List.mem_of_getElem? (i := 228) (by decide +kernel)) rfl
theorem in_in68 : Cond.initialized (cnm 6) ∈ gtb := g_of (List.mem_of_getElem? (i := 57) (by decide +kernel)) rfl
theorem in_cl40 : Cond.classLink (cnm (mo 80)) 39 (cnm 3) ∈ gtb := g_of (List.mem_of_getElem? (i := 243) (by decide +kernel)) rfl
theorem in_is40 : Cond.instantiable (cnm 3) 12 ∈ gtb := g_of (List.mem_of_getElem? (i := 244) (by decide +kernel)) rfl
theorem in_in40 : Cond.initialized (cnm 3) ∈ gtb := g_of (List.mem_of_getElem? (i := 58) (by decide +kernel)) rfl
theorem in_ml40 : Cond.methodLink (cnm (mo 80)) 41 (my 40) ∈ gtb := g_of (List.mem_of_getElem? (i := 245) (by decide +kernel)) rfl
theorem in_cl75 : Cond.classLink (cnm (mo 80)) 48 (cnm 8) ∈ gtb := g_of (List.mem_of_getElem? (i := 287) (by decide +kernel)) rfl
theorem in_is75 : Cond.instantiable (cnm 8) 4 ∈ gtb := g_of (List.mem_of_getElem? (i := 288) (by decide +kernel)) rfl
theorem in_in75 : Cond.initialized (cnm 8) ∈ gtb := g_of (List.mem_of_getElem? (i := 59) (by decide +kernel)) rfl
theorem in_ml75 : Cond.methodLink (cnm (mo 80)) 50 (my 75) ∈ gtb := g_of (List.mem_of_getElem? (i := 289) (by decide +kernel)) rfl
theorem in_cl71 : Cond.classLink (cnm (mo 80)) 55 (cnm 7) ∈ gtb := g_of (List.mem_of_getElem? (i := 312) (by decide +kernel)) rfl
theorem in_is71 : Cond.instantiable (cnm 7) 6 ∈ gtb := g_of (List.mem_of_getElem? (i := 313) (by decide +kernel)) rfl
theorem in_in71 : Cond.initialized (cnm 7) ∈ gtb := g_of (List.mem_of_getElem? (i := 60) (by decide +kernel)) rfl
theorem in_ml71 : Cond.methodLink (cnm (mo 80)) 57 (my 71) ∈ gtb := g_of (List.mem_of_getElem? (i := 314) (by decide +kernel)) rfl
theorem in_cl0 : Cond.classLink (cnm (mo 80)) 62 (cnm 0) ∈ gtb := g_of (List.mem_of_getElem? (i := 341) (by decide +kernel)) rfl
theorem in_is0 : Cond.instantiable (cnm 0) 7 ∈ gtb := g_of (List.mem_of_getElem? (i := 342) (by decide +kernel)) rfl
theorem in_in0 : Cond.initialized (cnm 0) ∈ gtb := g_of (List.mem_of_getElem? (i := 61) (by decide +kernel)) rfl
theorem in_ml0 : Cond.methodLink (cnm (mo 80)) 64 (my 0) ∈ gtb := g_of (List.mem_of_getElem? (i := 343) (by decide +kernel)) rfl
theorem in_cl62 : Cond.classLink (cnm (mo 80)) 69 (cnm 5) ∈ gtb := g_of (List.mem_of_getElem? (i := 370) (by decide +kernel)) rfl
theorem in_is62 : Cond.instantiable (cnm 5) 5 ∈ gtb := g_of (List.mem_of_getElem? (i := 371) (by decide +kernel)) rfl
theorem in_in62 : Cond.initialized (cnm 5) ∈ gtb := g_of (List.mem_of_getElem? (i := 62) (by decide +kernel)) rfl
theorem in_ml62 : Cond.methodLink (cnm (mo 80)) 71 (my 62) ∈ gtb := g_of (List.mem_of_getElem? (i := 372) (by decide +kernel)) rfl
abbrev wMB (cI cZ cG : ClassId) (h0 : Nat) (u : Nat → Nat → Nat) : va_W := (h0, .inr (9, [.ref (u 0 0), .ref (u 1 0), .ref (u 2 0), .ref (u 3 0), .ref (u 4 0), .ref (u 5 0), .ref (u 6 0), .ref (u 7 0), .ref (u 8 0)])) :: (((((((((([] : va_W) ++ wd shH cI cZ cG (u 0) mH2) ++ wf9 cI cZ (u 1 0) (u 0 0) (u 1)) ++ wf58 cI cZ (u 2 0) (u 0 0) (u 2)) ++ wf68 cI cZ (u 3 0) (u 3)) ++ wf40 cI cZ (u 4 0) (u 3 0) (u 4)) ++ wd shW cI cZ cG (u 5) mW1) ++ wf71 cI cZ (u 6 0) (u 0 0) (u 6)) ++ wf0 cI cZ (u 7 0) (u 0 0) (u 7)) ++ wf62 cI cZ (u 8 0) (u 0 0) (u 8))
set_option maxHeartbeats 4000000 in
set_option maxRecDepth 100000 in
theorem k_80 (l : Launch) (D : va_G) (cI cZ cG : ClassId) (ad0 : Nat → Nat) (fm : Value) (h0 sz : Nat) : Met l (my 80) (wz 80) (rmC 80 50 669) (va_Pc [.ref h0] (PreZ D cI cZ cG ad0 fm [(h0, .inr (9, [.null, .null, .null, .null, .null, .null, .null, .null, .null]))] sz)) (va_Qv (S := Nat → Nat → Nat) (fun _ => True) (fun u t => va_P D vwCl (wMB cI cZ cG h0 u) t.heap ∧ va_D (va_A [(h0, .inr (9, [.null, .null, .null, .null, .null, .null, .null, .null, .null]))] sz) (wMB cI cZ cG h0 u)) (va_A [(h0, .inr (9, [.null, .null, .null, .null, .null, .null, .null, .null, .null]))] sz)) 50 669 (va_A [(h0, .inr (9, [.null, .null, .null, .null, .null, .null, .null, .null, .null]))] sz) := by
  refine met_ofW (cc := mb 80) (maxL := mL 80) (ret := mr 80) (by decide +kernel) rfl ?_
  intro p e s m args below meth c s₁ B hml hv
  obtain ⟨rfl, hZZ, hsz, hP, hD0, hE⟩ := hv
  subst hsz
  have hx := B.exec
  have hb := B.bytes
  have hr := B.returns
  have hts0 := atoms_spec (ws := wz 80) B.pre
  have hts : ∀ w ∈ gtb, w.before ([.ref h0] : List Value).toArray s = true := fun w hw => hts0 w (List.mem_cons_of_mem _ hw)
  have hown : s.vm.findClass (cnm (mo 80)) = some m.cls := findClass_of_methodNamed B.named
  have hlocks := B.notSynchronized
  have hin : meth.name = "<init>" := (name_of_methodNamed B.named B.method).1
  have hK := hE.1
  have hD := hD0.self (sz := s.heap.size)
  generalize hAe : va_A [(h0, .inr (9, [.null, .null, .null, .null, .null, .null, .null, .null, .null]))] s.heap.size = A at hD hE ⊢
  have hA : ∀ q : Nat, s.heap.size ≤ q → A q := fun q h => by rw [← hAe]; exact Or.inr h
  have hS : va_S A s.heap s.heap [] := va_S.rf
  have hl := lv_entry ([.ref h0]) (n := 1) (Nat.le_of_ble_eq_true rfl)
  rw [show mL 80 = 1 from rfl, lg_entry_eq]
  generalize (lg_sl ([.ref h0]) ++ List.replicate (1 - (lg_sl ([.ref h0])).length) Slot.unset).toArray = ls at hl ⊢
  have hl : lv_has ls 1 [(0, .ref h0)] := hl
  refine lv_aload_n hx hb e80_0 rfl (lv_at hl 0 rfl) ?_
  refine W.objInit hx hb hown (hts _ in_ol80) (hts _ in_oi) (hts _ in_oc) rfl (by rw [hml]; exact hl.1) rfl e80_1 (Nat.le_of_ble_eq_true rfl) (Nat.le_of_ble_eq_true rfl) ?_
  refine W.eq (g2 := F0 m 4 ls []) rfl ?_
  refine lv_aload_n hx hb e80_4 rfl (lv_at hl 0 rfl) ?_
  refine va_new (ci := 2) (fs := [.null, .int 0, .int 0, .null, .null, .null, .null, .null, .null]) (C := RX2) (T := TX2) (N := 9) hx hb hts inX2 tyX2 tyX2_ok hown (hts _ in_cl23) (hts _ in_is23) (hts _ in_in23) hK hP hD hS hA rfl (fun j hj => by rcases (show j = 0 ∨ j = 1 ∨ j = 2 ∨ j = 3 ∨ j = 4 ∨ j = 5 ∨ j = 6 ∨ j = 7 ∨ j = 8 by omega) with rfl | rfl | rfl | rfl | rfl | rfl | rfl | rfl | rfl <;> rfl) (Nat.le_of_ble_eq_true rfl) (Nat.le_of_ble_eq_true rfl) e80_5 (fun z0 H hP hD hS => ?_)
  refine W.widen (k := 1) (n := 9) (by decide) (by decide) ?_
  refine lv_dup hx hb e80_8 rfl ?_
  refine cr_after (va_runI (As := []) (rest := [.ref z0, .ref h0]) ⟨hx, hb, hml, hown, hts⟩ (k_23 l D cI cZ cG ad0 fm z0 H.size) (cwI 0 hts good_c23 rfl rfl rfl (hts _ in_in23) (hts _ in_ml23) (hts _ in_ii23) rfl (by decide +kernel) ⟨Nat.le_of_ble_eq_true rfl, Nat.le_of_ble_eq_true rfl⟩) ⟨blindZ, fun U hU hW => ⟨rfl, hZZ.warm hW, pre_last hE hP hD hS hA U hU hW⟩⟩ rfl rfl hl.1 rfl (lv_room (Nat.le_of_ble_eq_true rfl)) e80_9 ⟨Nat.le_of_ble_eq_true rfl, Nat.le_of_ble_eq_true rfl⟩) hP hD hS hA (fun u0 H locs hu hP hD hS => ?_)
  refine W.widen (k := 18) (n := 173) (by decide) (by decide) ?_
  rw [← hu]
  refine cr_pf (v := .ref (u0 0)) (k := 0) (idx := 10) (ci := 9) (CC := RX9) (T := TX9) (NN := 9) (ty := tyX9 0) hx hb hts hown hin hK rfl inX9 tyX9 tyX9_ok nmX9 f9_10 (by decide) rfl rfl rfl rfl rfl (Nat.le_of_ble_eq_true rfl) e80_12 hP hD hS (fun H locs hP hD hS => ?_)
  refine lv_aload_n hx hb e80_15 rfl (lv_at hl 0 rfl) ?_
  refine va_new (ci := 1) (fs := [.null, .null, .null, .null, .int 0, .null, .null]) (C := RX1) (T := TX1) (N := 7) hx hb hts inX1 tyX1 tyX1_ok hown (hts _ in_cl9) (hts _ in_is9) (hts _ in_in9) hK hP hD hS hA rfl (fun j hj => by rcases (show j = 0 ∨ j = 1 ∨ j = 2 ∨ j = 3 ∨ j = 4 ∨ j = 5 ∨ j = 6 by omega) with rfl | rfl | rfl | rfl | rfl | rfl | rfl <;> rfl) (Nat.le_of_ble_eq_true rfl) (Nat.le_of_ble_eq_true rfl) e80_16 (fun z1 H hP hD hS => ?_)
  refine W.widen (k := 19) (n := 180) (by decide) (by decide) ?_
  refine lv_dup hx hb e80_19 rfl ?_
  refine lv_aload_n hx hb e80_20 rfl (lv_at hl 0 rfl) ?_
  refine va_get (C := RX9) (T := TX9) (N := 9) (ref := (TX9 0).1) (index := 10) hx hb hts inX9 hown hK hP 0 rfl rfl 0 (by decide) (hts _ (g_of (fld_w f9_10) rfl)) (fun _ h => h) (v := .ref (u0 0)) rfl e80_21 ?_
  refine cr_after (va_runI (As := [.ref (u0 0)]) (rest := [.ref z1, .ref h0]) ⟨hx, hb, hml, hown, hts⟩ (k_9 l D cI cZ cG ad0 fm z1 (u0 0) H.size) (cwI 1 hts good_c9 rfl rfl rfl (hts _ in_in9) (hts _ in_ml9) (hts _ in_ii9) rfl (by decide +kernel) ⟨Nat.le_of_ble_eq_true rfl, Nat.le_of_ble_eq_true rfl⟩) ⟨blindC, fun U hU hW => ⟨rfl, pre_last hE hP hD hS hA U hU hW⟩⟩ rfl rfl hl.1 rfl (lv_room (Nat.le_of_ble_eq_true rfl)) e80_24 ⟨Nat.le_of_ble_eq_true rfl, Nat.le_of_ble_eq_true rfl⟩) hP hD hS hA (fun u1 H locs hu hP hD hS => ?_)
  refine W.widen (k := 24) (n := 230) (by decide) (by decide) ?_
  refine cr_pf (v := .ref (z1)) (k := 1) (idx := 21) (ci := 9) (CC := RX9) (T := TX9) (NN := 9) (ty := tyX9 1) hx hb hts hown hin hK rfl inX9 tyX9 tyX9_ok nmX9 f9_21 (by decide) rfl rfl rfl rfl rfl (Nat.le_of_ble_eq_true rfl) e80_27 hP hD hS (fun H locs hP hD hS => ?_)
  refine lv_aload_n hx hb e80_30 rfl (lv_at hl 0 rfl) ?_
  refine va_new (ci := 4) (fs := [.int 0, .int 0, .int 0, .int 0, .int 0, .null, .null, .null, .null, .null, .null]) (C := RX4) (T := TX4) (N := 11) hx hb hts inX4 tyX4 tyX4_ok hown (hts _ in_cl58) (hts _ in_is58) (hts _ in_in58) hK hP hD hS hA rfl (fun j hj => by rcases (show j = 0 ∨ j = 1 ∨ j = 2 ∨ j = 3 ∨ j = 4 ∨ j = 5 ∨ j = 6 ∨ j = 7 ∨ j = 8 ∨ j = 9 ∨ j = 10 by omega) with rfl | rfl | rfl | rfl | rfl | rfl | rfl | rfl | rfl | rfl | rfl <;> rfl) (Nat.le_of_ble_eq_true rfl) (Nat.le_of_ble_eq_true rfl) e80_31 (fun z2 H hP hD hS => ?_)
  refine W.widen (k := 25) (n := 241) (by decide) (by decide) ?_
  refine lv_dup hx hb e80_34 rfl ?_
  refine lv_aload_n hx hb e80_35 rfl (lv_at hl 0 rfl) ?_
  refine va_get (C := RX9) (T := TX9) (N := 9) (ref := (TX9 0).1) (index := 10) hx hb hts inX9 hown hK hP 0 rfl rfl 0 (by decide) (hts _ (g_of (fld_w f9_10) rfl)) (fun _ h => h) (v := .ref (u0 0)) rfl e80_36 ?_
  refine cr_after (va_runI (As := [.ref (u0 0)]) (rest := [.ref z2, .ref h0]) ⟨hx, hb, hml, hown, hts⟩ (k_58 l D cI cZ cG ad0 fm z2 (u0 0) H.size) (cwI 1 hts good_c58 rfl rfl rfl (hts _ in_in58) (hts _ in_ml58) (hts _ in_ii58) rfl (by decide +kernel) ⟨Nat.le_of_ble_eq_true rfl, Nat.le_of_ble_eq_true rfl⟩) ⟨blindC, fun U hU hW => ⟨rfl, pre_last hE hP hD hS hA U hU hW⟩⟩ rfl rfl hl.1 rfl (lv_room (Nat.le_of_ble_eq_true rfl)) e80_39 ⟨Nat.le_of_ble_eq_true rfl, Nat.le_of_ble_eq_true rfl⟩) hP hD hS hA (fun u2 H locs hu hP hD hS => ?_)
  refine W.widen (k := 30) (n := 271) (by decide) (by decide) ?_
  refine cr_pf (v := .ref (z2)) (k := 2) (idx := 28) (ci := 9) (CC := RX9) (T := TX9) (NN := 9) (ty := tyX9 2) hx hb hts hown hin hK rfl inX9 tyX9 tyX9_ok nmX9 f9_28 (by decide) rfl rfl rfl rfl rfl (Nat.le_of_ble_eq_true rfl) e80_42 hP hD hS (fun H locs hP hD hS => ?_)
  refine lv_aload_n hx hb e80_45 rfl (lv_at hl 0 rfl) ?_
  refine va_new (ci := 6) (fs := [.null, .int 0]) (C := RX6) (T := TX6) (N := 2) hx hb hts inX6 tyX6 tyX6_ok hown (hts _ in_cl68) (hts _ in_is68) (hts _ in_in68) hK hP hD hS hA rfl (fun j hj => by rcases (show j = 0 ∨ j = 1 by omega) with rfl | rfl <;> rfl) (Nat.le_of_ble_eq_true rfl) (Nat.le_of_ble_eq_true rfl) e80_46 (fun z3 H hP hD hS => ?_)
  refine W.widen (k := 31) (n := 273) (by decide) (by decide) ?_
  refine lv_dup hx hb e80_49 rfl ?_
  refine cr_after (va_runIN (As := []) (rest := [.ref z3, .ref h0]) (host := "MinuteBehind") ⟨hx, hb, hml, hown, hts⟩ (k_68 l D cI cZ cG ad0 fm z3 H.size) ⟨va_cnB 0 hts good_c68 rfl rfl rfl hZZ.2 (hts _ in_in68) (by decide +kernel) ⟨Nat.le_of_ble_eq_true rfl, Nat.le_of_ble_eq_true rfl⟩, rfl, hts _ in_ii68⟩ ⟨blindC, fun U hU hW => ⟨rfl, pre_last hE hP hD hS hA U hU hW⟩⟩ rfl rfl hl.1 rfl (lv_room (Nat.le_of_ble_eq_true rfl)) e80_50 ⟨Nat.le_of_ble_eq_true rfl, Nat.le_of_ble_eq_true rfl⟩) hP hD hS hA (fun u3 H locs hu hP hD hS => ?_)
  refine W.widen (k := 32) (n := 473) (by decide) (by decide) ?_
  refine cr_pf (v := .ref (z3)) (k := 3) (idx := 35) (ci := 9) (CC := RX9) (T := TX9) (NN := 9) (ty := tyX9 3) hx hb hts hown hin hK rfl inX9 tyX9 tyX9_ok nmX9 f9_35 (by decide) rfl rfl rfl rfl rfl (Nat.le_of_ble_eq_true rfl) e80_53 hP hD hS (fun H locs hP hD hS => ?_)
  refine lv_aload_n hx hb e80_56 rfl (lv_at hl 0 rfl) ?_
  refine va_new (ci := 3) (fs := [.int 0, .null, .null, .null, .int 0, .int 0, .int 0, .int 0, .int 0, .int 0, .int 0, .int 0]) (C := RX3) (T := TX3) (N := 12) hx hb hts inX3 tyX3 tyX3_ok hown (hts _ in_cl40) (hts _ in_is40) (hts _ in_in40) hK hP hD hS hA rfl (fun j hj => by rcases (show j = 0 ∨ j = 1 ∨ j = 2 ∨ j = 3 ∨ j = 4 ∨ j = 5 ∨ j = 6 ∨ j = 7 ∨ j = 8 ∨ j = 9 ∨ j = 10 ∨ j = 11 by omega) with rfl | rfl | rfl | rfl | rfl | rfl | rfl | rfl | rfl | rfl | rfl | rfl <;> rfl) (Nat.le_of_ble_eq_true rfl) (Nat.le_of_ble_eq_true rfl) e80_57 (fun z4 H hP hD hS => ?_)
  refine W.widen (k := 33) (n := 485) (by decide) (by decide) ?_
  refine lv_dup hx hb e80_60 rfl ?_
  refine lv_aload_n hx hb e80_61 rfl (lv_at hl 0 rfl) ?_
  refine va_get (C := RX9) (T := TX9) (N := 9) (ref := (TX9 3).1) (index := 35) hx hb hts inX9 hown hK hP 0 rfl rfl 3 (by decide) (hts _ (g_of (fld_w f9_35) rfl)) (fun _ h => h) (v := .ref (z3)) rfl e80_62 ?_
  refine cr_after (va_runI (As := [.ref (z3)]) (rest := [.ref z4, .ref h0]) ⟨hx, hb, hml, hown, hts⟩ (k_40 l D cI cZ cG ad0 fm z4 (z3) H.size) (cwI 1 hts good_c40 rfl rfl rfl (hts _ in_in40) (hts _ in_ml40) (hts _ in_ii40) rfl (by decide +kernel) ⟨Nat.le_of_ble_eq_true rfl, Nat.le_of_ble_eq_true rfl⟩) ⟨blindC, fun U hU hW => ⟨rfl, pre_last hE hP hD hS hA U hU hW⟩⟩ rfl rfl hl.1 rfl (lv_room (Nat.le_of_ble_eq_true rfl)) e80_65 ⟨Nat.le_of_ble_eq_true rfl, Nat.le_of_ble_eq_true rfl⟩) hP hD hS hA (fun u4 H locs hu hP hD hS => ?_)
  refine W.widen (k := 35) (n := 545) (by decide) (by decide) ?_
  refine cr_pf (v := .ref (z4)) (k := 4) (idx := 44) (ci := 9) (CC := RX9) (T := TX9) (NN := 9) (ty := tyX9 4) hx hb hts hown hin hK rfl inX9 tyX9 tyX9_ok nmX9 f9_44 (by decide) rfl rfl rfl rfl rfl (Nat.le_of_ble_eq_true rfl) e80_68 hP hD hS (fun H locs hP hD hS => ?_)
  refine lv_aload_n hx hb e80_71 rfl (lv_at hl 0 rfl) ?_
  refine va_new (ci := 8) (fs := [.int 0, .int 0, .null, .null]) (C := RX8) (T := TX8) (N := 4) hx hb hts inX8 tyX8 tyX8_ok hown (hts _ in_cl75) (hts _ in_is75) (hts _ in_in75) hK hP hD hS hA rfl (fun j hj => by rcases (show j = 0 ∨ j = 1 ∨ j = 2 ∨ j = 3 by omega) with rfl | rfl | rfl | rfl <;> rfl) (Nat.le_of_ble_eq_true rfl) (Nat.le_of_ble_eq_true rfl) e80_72 (fun z5 H hP hD hS => ?_)
  refine W.widen (k := 36) (n := 549) (by decide) (by decide) ?_
  refine lv_dup hx hb e80_75 rfl ?_
  refine cr_after (va_runI (As := []) (rest := [.ref z5, .ref h0]) ⟨hx, hb, hml, hown, hts⟩ (k_75 l D cI cZ cG ad0 fm z5 H.size) (cwI 0 hts good_c75 rfl rfl rfl (hts _ in_in75) (hts _ in_ml75) (hts _ in_ii75) rfl (by decide +kernel) ⟨Nat.le_of_ble_eq_true rfl, Nat.le_of_ble_eq_true rfl⟩) ⟨blindC, fun U hU hW => ⟨rfl, pre_last hE hP hD hS hA U hU hW⟩⟩ rfl rfl hl.1 rfl (lv_room (Nat.le_of_ble_eq_true rfl)) e80_76 ⟨Nat.le_of_ble_eq_true rfl, Nat.le_of_ble_eq_true rfl⟩) hP hD hS hA (fun u5 H locs hu hP hD hS => ?_)
  refine W.widen (k := 38) (n := 553) (by decide) (by decide) ?_
  rw [← hu]
  refine cr_pf (v := .ref (u5 0)) (k := 5) (idx := 51) (ci := 9) (CC := RX9) (T := TX9) (NN := 9) (ty := tyX9 5) hx hb hts hown hin hK rfl inX9 tyX9 tyX9_ok nmX9 f9_51 (by decide) rfl rfl rfl rfl rfl (Nat.le_of_ble_eq_true rfl) e80_79 hP hD hS (fun H locs hP hD hS => ?_)
  refine lv_aload_n hx hb e80_82 rfl (lv_at hl 0 rfl) ?_
  refine va_new (ci := 7) (fs := [.int 0, .int 0, .int 0, .int 0, .null, .null]) (C := RX7) (T := TX7) (N := 6) hx hb hts inX7 tyX7 tyX7_ok hown (hts _ in_cl71) (hts _ in_is71) (hts _ in_in71) hK hP hD hS hA rfl (fun j hj => by rcases (show j = 0 ∨ j = 1 ∨ j = 2 ∨ j = 3 ∨ j = 4 ∨ j = 5 by omega) with rfl | rfl | rfl | rfl | rfl | rfl <;> rfl) (Nat.le_of_ble_eq_true rfl) (Nat.le_of_ble_eq_true rfl) e80_83 (fun z6 H hP hD hS => ?_)
  refine W.widen (k := 39) (n := 559) (by decide) (by decide) ?_
  refine lv_dup hx hb e80_86 rfl ?_
  refine lv_aload_n hx hb e80_87 rfl (lv_at hl 0 rfl) ?_
  refine va_get (C := RX9) (T := TX9) (N := 9) (ref := (TX9 0).1) (index := 10) hx hb hts inX9 hown hK hP 0 rfl rfl 0 (by decide) (hts _ (g_of (fld_w f9_10) rfl)) (fun _ h => h) (v := .ref (u0 0)) rfl e80_88 ?_
  refine cr_after (va_runI (As := [.ref (u0 0)]) (rest := [.ref z6, .ref h0]) ⟨hx, hb, hml, hown, hts⟩ (k_71 l D cI cZ cG ad0 fm z6 (u0 0) H.size) (cwI 1 hts good_c71 rfl rfl rfl (hts _ in_in71) (hts _ in_ml71) (hts _ in_ii71) rfl (by decide +kernel) ⟨Nat.le_of_ble_eq_true rfl, Nat.le_of_ble_eq_true rfl⟩) ⟨blindC, fun U hU hW => ⟨rfl, pre_last hE hP hD hS hA U hU hW⟩⟩ rfl rfl hl.1 rfl (lv_room (Nat.le_of_ble_eq_true rfl)) e80_91 ⟨Nat.le_of_ble_eq_true rfl, Nat.le_of_ble_eq_true rfl⟩) hP hD hS hA (fun u6 H locs hu hP hD hS => ?_)
  refine W.widen (k := 40) (n := 571) (by decide) (by decide) ?_
  refine cr_pf (v := .ref (z6)) (k := 6) (idx := 58) (ci := 9) (CC := RX9) (T := TX9) (NN := 9) (ty := tyX9 6) hx hb hts hown hin hK rfl inX9 tyX9 tyX9_ok nmX9 f9_58 (by decide) rfl rfl rfl rfl rfl (Nat.le_of_ble_eq_true rfl) e80_94 hP hD hS (fun H locs hP hD hS => ?_)
  refine lv_aload_n hx hb e80_97 rfl (lv_at hl 0 rfl) ?_
  refine va_new (ci := 0) (fs := [.int 0, .null, .null, .null, .null, .null, .null]) (C := RX0) (T := TX0) (N := 7) hx hb hts inX0 tyX0 tyX0_ok hown (hts _ in_cl0) (hts _ in_is0) (hts _ in_in0) hK hP hD hS hA rfl (fun j hj => by rcases (show j = 0 ∨ j = 1 ∨ j = 2 ∨ j = 3 ∨ j = 4 ∨ j = 5 ∨ j = 6 by omega) with rfl | rfl | rfl | rfl | rfl | rfl | rfl <;> rfl) (Nat.le_of_ble_eq_true rfl) (Nat.le_of_ble_eq_true rfl) e80_98 (fun z7 H hP hD hS => ?_)
  refine W.widen (k := 41) (n := 578) (by decide) (by decide) ?_
  refine lv_dup hx hb e80_101 rfl ?_
  refine lv_aload_n hx hb e80_102 rfl (lv_at hl 0 rfl) ?_
  refine va_get (C := RX9) (T := TX9) (N := 9) (ref := (TX9 0).1) (index := 10) hx hb hts inX9 hown hK hP 0 rfl rfl 0 (by decide) (hts _ (g_of (fld_w f9_10) rfl)) (fun _ h => h) (v := .ref (u0 0)) rfl e80_103 ?_
  refine cr_after (va_runI (As := [.ref (u0 0)]) (rest := [.ref z7, .ref h0]) ⟨hx, hb, hml, hown, hts⟩ (k_0 l D cI cZ cG ad0 fm z7 (u0 0) H.size) (cwI 1 hts good_c0 rfl rfl rfl (hts _ in_in0) (hts _ in_ml0) (hts _ in_ii0) rfl (by decide +kernel) ⟨Nat.le_of_ble_eq_true rfl, Nat.le_of_ble_eq_true rfl⟩) ⟨blindC, fun U hU hW => ⟨rfl, pre_last hE hP hD hS hA U hU hW⟩⟩ rfl rfl hl.1 rfl (lv_room (Nat.le_of_ble_eq_true rfl)) e80_106 ⟨Nat.le_of_ble_eq_true rfl, Nat.le_of_ble_eq_true rfl⟩) hP hD hS hA (fun u7 H locs hu hP hD hS => ?_)
  refine W.widen (k := 46) (n := 628) (by decide) (by decide) ?_
  refine cr_pf (v := .ref (z7)) (k := 7) (idx := 65) (ci := 9) (CC := RX9) (T := TX9) (NN := 9) (ty := tyX9 7) hx hb hts hown hin hK rfl inX9 tyX9 tyX9_ok nmX9 f9_65 (by decide) rfl rfl rfl rfl rfl (Nat.le_of_ble_eq_true rfl) e80_109 hP hD hS (fun H locs hP hD hS => ?_)
  refine lv_aload_n hx hb e80_112 rfl (lv_at hl 0 rfl) ?_
  refine va_new (ci := 5) (fs := [.int 0, .null, .null, .null, .null]) (C := RX5) (T := TX5) (N := 5) hx hb hts inX5 tyX5 tyX5_ok hown (hts _ in_cl62) (hts _ in_is62) (hts _ in_in62) hK hP hD hS hA rfl (fun j hj => by rcases (show j = 0 ∨ j = 1 ∨ j = 2 ∨ j = 3 ∨ j = 4 by omega) with rfl | rfl | rfl | rfl | rfl <;> rfl) (Nat.le_of_ble_eq_true rfl) (Nat.le_of_ble_eq_true rfl) e80_113 (fun z8 H hP hD hS => ?_)
  refine W.widen (k := 47) (n := 633) (by decide) (by decide) ?_
  refine lv_dup hx hb e80_116 rfl ?_
  refine lv_aload_n hx hb e80_117 rfl (lv_at hl 0 rfl) ?_
  refine va_get (C := RX9) (T := TX9) (N := 9) (ref := (TX9 0).1) (index := 10) hx hb hts inX9 hown hK hP 0 rfl rfl 0 (by decide) (hts _ (g_of (fld_w f9_10) rfl)) (fun _ h => h) (v := .ref (u0 0)) rfl e80_118 ?_
  refine cr_after (va_runI (As := [.ref (u0 0)]) (rest := [.ref z8, .ref h0]) ⟨hx, hb, hml, hown, hts⟩ (k_62 l D cI cZ cG ad0 fm z8 (u0 0) H.size) (cwI 1 hts good_c62 rfl rfl rfl (hts _ in_in62) (hts _ in_ml62) (hts _ in_ii62) rfl (by decide +kernel) ⟨Nat.le_of_ble_eq_true rfl, Nat.le_of_ble_eq_true rfl⟩) ⟨blindC, fun U hU hW => ⟨rfl, pre_last hE hP hD hS hA U hU hW⟩⟩ rfl rfl hl.1 rfl (lv_room (Nat.le_of_ble_eq_true rfl)) e80_121 ⟨Nat.le_of_ble_eq_true rfl, Nat.le_of_ble_eq_true rfl⟩) hP hD hS hA (fun u8 H locs hu hP hD hS => ?_)
  refine W.widen (k := 50) (n := 669) (by decide) (by decide) ?_
  refine cr_pf (v := .ref (z8)) (k := 8) (idx := 72) (ci := 9) (CC := RX9) (T := TX9) (NN := 9) (ty := tyX9 8) hx hb hts hown hin hK rfl inX9 tyX9 tyX9_ok nmX9 f9_72 (by decide) rfl rfl rfl rfl rfl (Nat.le_of_ble_eq_true rfl) e80_124 hP hD hS (fun H locs hP hD hS => ?_)
  exact W.vret hx hb hr (fun t ht hW => ⟨⟨(fun i => match i with | 0 => u0 | 1 => (fun j => match j with | 0 => z1 | j + 1 => u1 (j + 1)) | 2 => (fun j => match j with | 0 => z2 | j + 1 => u2 (j + 1)) | 3 => (fun j => match j with | 0 => z3 | j + 1 => u3 (j + 1)) | 4 => (fun j => match j with | 0 => z4 | j + 1 => u4 (j + 1)) | 5 => u5 | 6 => (fun j => match j with | 0 => z6 | j + 1 => u6 (j + 1)) | 7 => (fun j => match j with | 0 => z7 | j + 1 => u7 (j + 1)) | 8 => (fun j => match j with | 0 => z8 | j + 1 => u8 (j + 1)) | _ => fun _ => 0), rfl, trivial, by rw [ht]; exact hP, hD⟩, hS.F ht⟩) hS.2.2 e80_127
