/-! calls inside constructors -/
theorem arrV_cg {c : ClassId} {n : Nat} {f g : Nat → Int32} (h : ∀ j, j < n → f j = g j) : vp_cell c (n, .inl f) = vp_cell c (n, .inl g) := by
  show arrV c n (fun j => .int (f j)) = arrV c n (fun j => .int (g j))
  unfold arrV
  have e : (fun j : Fin n => Value.int (f j.val)) = fun j : Fin n => Value.int (g j.val) := funext fun j => by rw [h j.1 j.2]
  rw [e]
/-- a memory as a table says -/
def ckM (sh : List (Nat × Nat × List Nat)) (μ μ' : mm) : Bool := (List.range sh.length).all (fun k => (List.range ((sh.getD k (0, 0, [])).2.1 + (sh.getD k (0, 0, [])).2.2.length)).all (fun j => μ.1 k j == μ'.1 k j)) && (μ.2 == μ'.2)
theorem ckM_of {sh : List (Nat × Nat × List Nat)} {μ μ' : mm} (h : ckM sh μ μ' = true) : (∀ k c, sh[k]? = some c → ∀ j, j < c.2.1 + c.2.2.length → μ.1 k j = μ'.1 k j) ∧ μ.2 = μ'.2 := by
  unfold ckM at h
  rw [Bool.and_eq_true] at h
  refine ⟨fun k c hc j hj => ?_, by simpa using h.2⟩
  have h1 := all_at h.1 (List.mem_range.mpr (List.getElem?_eq_some_iff.mp hc).1)
  have hg : sh.getD k (0, 0, []) = c := by rw [List.getD_eq_getElem?_getD, hc]; rfl
  rw [hg] at h1
  have h2 := all_at h1 (List.mem_range.mpr hj)
  simpa using h2
theorem slVs_cg (ad : Nat → Nat) {μ μ' : mm} (h2 : μ.2 = μ'.2) (k : Nat) : ∀ (l : List Nat) (n : Nat), (∀ j, j < n + l.length → μ.1 k j = μ'.1 k j) → slVs ad μ k n l = slVs ad μ' k n l
  | [], n, _ => rfl
  | x :: t, n, h => by
    have e1 := slVs_cg ad h2 k t (n + 1) (fun j hj => h j (by simp only [List.length_cons]; omega))
    have e2 : slV ad μ k n x = slV ad μ' k n x := by
      match x with
      | 0 => simp only [slV]; rw [h n (by simp only [List.length_cons]; omega)]
      | 1 => simp only [slV]; rw [h2]
      | r + 2 => rfl
    simp only [slVs, e1, e2]
theorem va_P_cg {sh : List (Nat × Nat × List Nat)} {D : va_G} {cl : List vw_C} {cI cZ cG : ClassId} {ad : Nat → Nat} {μ μ' : mm} {H : Heap} (h : ckM sh μ μ' = true) (hP : va_P D cl (wd sh cI cZ cG ad μ) H) : va_P D cl (wd sh cI cZ cG ad μ') H := by
  obtain ⟨h1, h2⟩ := ckM_of h
  intro k q hq
  obtain ⟨c, hc, rfl⟩ := wd_inv hq
  have ho := hP k _ (wd_get cI cZ cG ad μ hc)
  have hk := h1 k c hc
  unfold cE at ho ⊢
  by_cases c1 : c.1 = 100
  · rw [if_pos c1] at ho ⊢
    exact ho.trans (congrArg some (arrV_cg (fun j hj => hk j (by omega))))
  · rw [if_neg c1] at ho ⊢
    by_cases c2 : c.1 = 101
    · rw [if_pos c2] at ho ⊢
      exact ho.trans (congrArg some (arrV_cg (fun j hj => hk j (by omega))))
    · rw [if_neg c2] at ho ⊢
      by_cases c3 : c.1 = 102
      · rw [if_pos c3] at ho ⊢
        exact ho
      · rw [if_neg c3] at ho ⊢
        rw [← slVs_cg ad h2 k c.2.2 0 (fun j hj => hk j (by omega))]
        exact ho
theorem va_D_cg {sh : List (Nat × Nat × List Nat)} {A : Nat → Prop} {cI cZ cG : ClassId} {ad : Nat → Nat} {μ μ' : mm} (hD : va_D A (wd sh cI cZ cG ad μ)) : va_D A (wd sh cI cZ cG ad μ') := by
  refine ⟨fun i j p q hp hq hpq => ?_, fun k q hq => ?_⟩
  · obtain ⟨c, hc, rfl⟩ := wd_inv hp
    obtain ⟨c', hc', rfl⟩ := wd_inv hq
    exact hD.1 i j _ _ (wd_get cI cZ cG ad μ hc) (wd_get cI cZ cG ad μ hc') hpq
  · obtain ⟨c, hc, rfl⟩ := wd_inv hq
    have := hD.2 k (ad k, cE cI cZ cG ad μ k c) (wd_get cI cZ cG ad μ hc)
    exact this
theorem Wo.cg {sh : List (Nat × Nat × List Nat)} {D : va_G} {cI cZ cG : ClassId} {ad : Nat → Nat} {A : Nat → Prop} {s : State} {H : Heap} {locs : List Loc} {μ μ' : mm} (hw : Wo sh D cI cZ cG ad A s H locs μ) (h : ckM sh μ μ' = true) : Wo sh D cI cZ cG ad A s H locs μ' := ⟨va_P_cg h hw.1, va_D_cg hw.2.1, hw.2.2⟩
/-- a run that was looked at -/
def ckR (sh : List (Nat × Nat × List Nat)) (o : Option (Option Value × mm)) (μ' : mm) : Bool := match o with
  | some (none, μ) => ckM sh μ μ'
  | _ => false
theorem ckR_of {sh : List (Nat × Nat × List Nat)} {o : Option (Option Value × mm)} {μ' : mm} (h : ckR sh o μ' = true) : ∃ μ, o = some (none, μ) ∧ ckM sh μ μ' = true := by
  unfold ckR at h
  split at h
  · rename_i μ; exact ⟨μ, rfl, h⟩
  · cases h
section CC
variable {p : Program} {l : Launch} {e : Env} {R : Room} {s : State} {m : MethodId} {args : Array Value} {below : List Frame} {meth : Method} {c : Code} {H : Heap} {locs : List Loc} {cells slots : Nat} {Q : State → Prop}
variable {D : va_G} {cI cZ cG : ClassId} {A : Nat → Prop} {ls : Array Slot} {pc z : Nat} {ad : Nat → Nat} {fm : Value}
/-- a call of the small machine's method on this -/
theorem cr_call {sh : List (Nat × Nat × List Nat)} {n z' idx nL : Nat} {xs : List Value} {μ μ' : mm} {q0 : Nat × List Nat} (hsh : okS sh = true)
    (hx : p.tables.exec = Jvm.exec) (hb : c.code = mb z) (hml : c.maxLocals = nL) (hls : ls.size = nL) (hts : ∀ w ∈ gtb, w.before args s = true) (hown : s.vm.findClass (cnm (mo z)) = some m.cls)
    (E : Ev D cI cZ cG ad fm A s) (hw : Wo sh D cI cZ cG ad A s H locs μ) (hA : ∀ q, s.heap.size ≤ q → A q) (hlk : lnk (mo z) idx = some (0, z')) (h0 : sh[0]? = some (mo z', q0)) (h11 : mo z' < 11)
    (hxs : xs.map (tr ad fm) = xs) (hcat : ((Value.ref 0 :: xs).map fun v => v.category).sum ≤ mL z') (hlen : xs.length = na z') (hR1 : mf z' + 1 ≤ R.frames) (hR2 : 8 + (mL z' + 11) + mlo z' ≤ R.locals) (hc : cells + 0 ≤ R.cells) (hs : slots + 0 ≤ R.slots)
    (hck : ckR sh (run sh n z' 0 (ent (.ref 0 :: xs)) [] μ) μ' = true) (d : decode (mb z) pc = .ok (.invokevirtual idx, 3))
    (kk : ∀ (H1 : Heap) (locs1 : List Loc), Wo sh D cI cZ cG ad A s H1 locs1 μ' → W p l e R s m args below meth c H1 locs1 cells slots Q (F0 m (pc + 3) ls [])) :
    W p l e R s m args below meth c H locs cells slots Q (F0 m pc ls (xs.reverse ++ [.ref (ad 0)])) := by
  obtain ⟨μ2, hr, hck2⟩ := ckR_of hck
  have ih := sim_all hsh n
  have hzv := lnk_v hlk
  have hz := v_c hzv
  have htr : tr ad fm (.ref 0) = .ref (ad 0) := tr_lt (by decide)
  have hM := met_of (l := l) (D := D) (cI := cI) (cZ := cZ) (cG := cG) (ad := ad) (fm := fm) ih hz hr hcat H.size
  have hcell : ∃ cellB : Cell, H[ad 0]? = some cellB ∧ cellB.vm.isStatics = false ∧ s.vm.findClass (cnm (mo z')) = some cellB.cls := by
    obtain ⟨n0, s0⟩ := q0
    have hwd := wd_get cI cZ cG ad μ h0
    rw [cE_obj h11] at hwd
    obtain ⟨T, N, hvw⟩ := vw_nm h11
    exact va_recv E.1 hw.1 hvw hwd
  have hrun := va_runV (R := R) (p := p) (e := e) (below := below) (meth := meth) (locs := locs) (cells := cells) (slots := slots) (b := ad 0) (As := xs) (rest := []) (g := F0 m pc ls (xs.reverse ++ [.ref (ad 0)])) (C := cnm (mo z')) ⟨hx, hb, hml, hown, hts⟩ hM
    (cwV (na z') hts (fun w hw9 => by
      unfold wsV at hw9
      rcases List.mem_append.mp hw9 with h | h
      · simp only [List.mem_cons, List.not_mem_nil, or_false] at h
        rcases h with rfl | rfl | rfl | rfl
        · exact good_of_g (g_of (lnk_w hlk) rfl)
        · exact good_of_g (g_of (v_i hzv) rfl)
        · exact good_of_g (g_of (v_s hzv) rfl)
        · exact good_of_g (g_of (c_ini hz) rfl)
      · exact good_wz hz w h) rfl rfl rfl ⟨c_cls hz, (c_mh hz).1, (c_mh hz).2, c_na hz⟩ ⟨hR1, hR2⟩)
    ⟨blind _ _, hcell, fun U hU hW => ⟨by rw [List.map_cons, htr, hxs], pre_of E hw hA U hU hW⟩⟩ rfl hlen hls rfl (lv_room (Nat.zero_le _)) d ⟨hc, hs⟩
  exact call_sim (fm := fm) ih (z := z') (as := .ref 0 :: xs) (rest := []) hw hA (Or.inl rfl) hrun (fun H1 locs1 hw1 => kk H1 locs1 (hw1.cg hck2))
end CC
/-- an int, into a field -/
theorem cr_pi {p : Program} {l : Launch} {e : Env} {R : Room} {s : State} {m : MethodId} {args : Array Value} {below : List Frame} {meth : Method} {c : Code} {H : Heap} {locs : List Loc} {cells slots : Nat} {Q : State → Prop} {D : va_G} {cI cZ cG : ClassId} {A : Nat → Prop} {ls : Array Slot} {pc z : Nat} {rest : List Value} {ci k idx NN h0 : Nat} {fs : List Value} {as : va_W} {CC : String} {T : u_T} {v : Int32}
    (hx : p.tables.exec = Jvm.exec) (hb : c.code = mb z) (hts : ∀ w ∈ gtb, w.before args s = true) (hown : s.vm.findClass (cnm (mo z)) = some m.cls) (hK : va_K D vwCl (KT cI cZ cG) s)
    (hv : vwCl[ci]? = some (CC, T, NN)) (hinw : ∀ w ∈ u_ws CC T NN, w ∈ gtb) (ty0 : Nat → FieldType) (hty : ∀ k, k < NN → parseFieldDescriptor (T k).2.2.1 = some (ty0 k)) (hnm : ∀ a, a < NN → ∀ b, b < NN → a ≠ b → (T a).2.1 ≠ (T b).2.1)
    (hf : fld (mo z) idx = some (ci, k)) (hk : k < NN) (hfin : (T k).2.2.2 = false) (hd : parseFieldDescriptor (T k).2.2.1 = some .int) (hfl : k < fs.length)
    (d2 : decode (mb z) pc = .ok (.putfield idx, 3))
    (hP : va_P D vwCl ((h0, .inr (ci, fs)) :: as) H) (hD : va_D A ((h0, .inr (ci, fs)) :: as)) (hS : va_S A s.heap H locs)
    (kk : ∀ (H1 : Heap) (locs1 : List Loc), va_P D vwCl ((h0, .inr (ci, fs.set k (.int v))) :: as) H1 → va_D A ((h0, .inr (ci, fs.set k (.int v))) :: as) → va_S A s.heap H1 locs1 → W p l e R s m args below meth c H1 locs1 cells slots Q (F0 m (pc + 3) ls rest)) :
    W p l e R s m args below meth c H locs cells slots Q (F0 m pc ls (.int v :: .ref h0 :: rest)) := by
  have hlink := hts _ (g_of (fld_w hf) rfl)
  unfold fwd at hlink
  simp only [hv, Option.getD_some] at hlink
  exact va_put hx hb hts hinw ty0 hty hnm hown hK hP hD hS 0 rfl hv k hk hlink (fun _ h => h) hfin hd rfl rfl hfl d2 kk
/-- addresses of a few cells; else as before -/
def adL (l : List Nat) (ad0 : Nat → Nat) : Nat → Nat := fun k => if k < 998 then l.getD k 0 else ad0 k
theorem adL_k (l : List Nat) (ad0 : Nat → Nat) : ∀ k, 1000 ≤ k → adL l ad0 k = ad0 k := fun k hk => if_neg (by omega)
/-- what the cells hold at first -/
def tb (k : Nat) (j : Int) : Int := match k with
  | 1 => if j = 1 then 4 else 0
  | 10 => if 0 ≤ j ∧ j < 4 then j else 0
  | 11 => if 1 ≤ j ∧ j < 10 then 1 else 0
  | 12 => if 0 ≤ j ∧ j < 10 then 1 else 0
  | 17 => if 0 ≤ j ∧ j < 4 then j else 0
  | 18 => if 0 ≤ j ∧ j < 4 then iab (1 - j) else 0
  | 19 => if 0 ≤ j ∧ j < 4 then iab (2 - j) else 0
  | 20 => if 0 ≤ j ∧ j < 4 then iab (3 - j) else 0
  | 40 => if 0 ≤ j ∧ j < 2 then -1 else 0
  | 51 => if j = 0 then 4 else 0
  | 52 => if 0 ≤ j ∧ j < 10 then 1 else 0
  | 53 => if 0 ≤ j ∧ j < 10 then 1 else 0
  | 57 => if 0 ≤ j ∧ j < 40 ∧ j % 10 < 4 then iab (j / 10 - j % 10) else 0
  | _ => 0
def m00 : mm := (fun _ _ => 0, 0)
def shW : List (Nat × Nat × List Nat) := [(8, 0, [0, 0, 3, 4]), (100, 2, []), (100, 2, [])]
theorem shW_ok : okS shW = true := by decide +kernel
def mW1 : mm := (fun k j => if k = 1 then iI (tb 40 j) else 0, 0)
theorem ckW : ckR shW (run shW 100 76 0 (ent [.ref 0]) [] m00) mW1 = true := by decide +kernel
def shH : List (Nat × Nat × List Nat) := [(2, 0, [3, 0, 0, 4, 5, 6, 7, 8, 9]), (100, 10, []), (100, 10, []), (100, 10, []), (100, 8, []), (100, 8, []), (100, 8, []), (102, 10, [8, 9, 10, 11, 12, 13, 14, 15, 16, 17]), (100, 10, []), (100, 10, []), (100, 10, []), (100, 10, []), (100, 10, []), (100, 10, []), (100, 10, []), (100, 10, []), (100, 10, []), (100, 10, [])]
theorem shH_ok : okS shH = true := by decide +kernel
def gH (k : Nat) : Nat := if k = 0 then 1 else k + 9
def mH1 : mm := (fun k j => if k = 0 ∨ k = 2 ∨ k = 3 then iI (tb (gH k) j) else 0, 0)
def mH2 : mm := (fun k j => iI (tb (gH k) j), 0)
theorem ckH1 : ckR shH (run shH 400 24 0 (ent [.ref 0, .int 4]) [] m00) mH1 = true := by decide +kernel
