/-! from here to the law's entry: the kit's skeleton; then the entry (wip/gen/gen_whole.py) -/
/-! THE CLAIM OUT OF ONE WALK OF THE LAW'S BODY. Your part is whole_start (and what it stands on); all else here is the same for every law, but numbers. -/
def R_law : String := "MinuteBehindLaw"
def lw_P (b : Addr) (xs : List Int32) (args : Array Value) (s : State) : Prop := args = #[.ref b] ∧ s.IntsAt b xs ∧ xs.length ≤ 2560 ∧ (Jvm.Cond.and given_1 narrow_1).before args s = true
def lw_Q (_ : Array Value) (s : State) (o : Outcome) (t : State) : Prop := o = .returned (some (.int 1)) ∧ Framed s o t [] 600000 7302250
def lw_Z (below : List Frame) (a : Array Value) (s : State) : State → Prop := fun t => ∃ o, t.status = .running ∧ Ended t below o ∧ lw_Q a s o t
/-- the law's own end, with 1 on the stack, nothing written that was there before, its room as the claim has it -/
theorem lw_ret {p : Program} {l : Launch} {e : Env} {s : State} {m : MethodId} {below : List Frame} {meth : Method} {c : Code} {b : Nat} (hx : p.tables.exec = Jvm.exec) (hb : c.code = code) (hr : meth.sig.returnType = ret) (hlocks : meth.locks = false) {pc : Nat} {H : Heap} {ls : Array Slot} (hdg : decode code pc = .ok (.ireturn, 1)) : W p l e room_1 s m #[Value.ref b] below meth c H [] 600000 7302250 (lw_Z below #[Value.ref b] s) (F0 m pc ls [.int 1]) := by
  intro T hT X
  obtain ⟨fs, hret, hrun, hended, hW, hframe⟩ := X.leave (v := some (.int 1)) (hlocks := hlocks) (fun h => by rw [hr] at h; cases h)
  have hmeth' : T.vm.method? m = some meth := X.method'
  refine ⟨T.setFrames fs, ?_, .returned (some (.int 1)), hrun, hended, rfl, ⟨_, rfl⟩, hW, hframe⟩
  jvm_step X.here [X.here.top, hx, hb, hdg, hmeth', hr, ret, narrow_b1]
  (try refine ⟨rfl, ?_⟩); (try refine ⟨rfl, ?_⟩)
  first | (intro acts; rw [hret _ acts rfl rfl rfl]) | rw [hret _ _ rfl rfl rfl]
  exact Steps.refl _
/-- what holds at the law's entry: the machine, the code, the tables' words (any of lw_tbl by 'hts w (by decide +kernel)'), the script of L ints xs at the cell b, what the Statement gives of the start (any of its parts by flat_of_before) -/
def lw_At (p : Program) (s : State) (m : MethodId) (meth : Method) (c : Code) (b L : Nat) (xs : Nat → Int32) : Prop :=
  p.tables.exec = Jvm.exec ∧ c.code = code ∧ meth.sig.returnType = ret ∧ c.maxLocals = 4 ∧ s.vm.findClass R_law = some m.cls ∧ (∀ w ∈ lw_tbl, w.before #[Value.ref b] s = true) ∧ va_X b L xs s s.heap ∧ b < s.heap.size ∧ meth.locks = false ∧ (Jvm.Cond.and given_1 narrow_1).before #[Value.ref b] s = true
theorem dl_0 : decode code 0 = .ok (.new 7, 3) := by decide +kernel
theorem dl_3 : decode code 3 = .ok (.dup, 1) := by decide +kernel
theorem dl_4 : decode code 4 = .ok (.invokespecial 9, 3) := by decide +kernel
theorem dl_7 : decode code 7 = .ok (.astore_n 1, 1) := by decide +kernel
theorem dl_8 : decode code 8 = .ok (.new 10, 3) := by decide +kernel
theorem dl_11 : decode code 11 = .ok (.dup, 1) := by decide +kernel
theorem dl_12 : decode code 12 = .ok (.invokespecial 12, 3) := by decide +kernel
theorem dl_15 : decode code 15 = .ok (.astore_n 2, 1) := by decide +kernel
theorem dl_16 : decode code 16 = .ok (.iconst 0, 1) := by decide +kernel
theorem dl_17 : decode code 17 = .ok (.istore_n 3, 1) := by decide +kernel
theorem lw_cl9 : Cond.classLink (cnm 11) 7 (cnm 9) ∈ gtb := g_of (List.mem_of_getElem? (i := 69) (by decide +kernel)) rfl
theorem lw_cl10 : Cond.classLink (cnm 11) 10 (cnm 10) ∈ gtb := g_of (List.mem_of_getElem? (i := 912) (by decide +kernel)) rfl
theorem lw_in9 : Cond.initialized (cnm 9) ∈ gtb := g_of (List.mem_of_getElem? (i := 52) (by decide +kernel)) rfl
theorem lw_in10 : Cond.initialized (cnm 10) ∈ gtb := g_of (List.mem_of_getElem? (i := 63) (by decide +kernel)) rfl
theorem lw_ml80 : Cond.methodLink (cnm 11) 9 (my 80) ∈ gtb := g_of (List.mem_of_getElem? (i := 71) (by decide +kernel)) rfl
theorem lw_ml116 : Cond.methodLink (cnm 11) 12 (my 116) ∈ gtb := g_of (List.mem_of_getElem? (i := 914) (by decide +kernel)) rfl
theorem slVs_ex (ad : Nat → Nat) {μ μ' : mm} (h2 : μ.2 = μ'.2) {k : Nat} (h : μ.1 k = μ'.1 k) : ∀ (l : List Nat) (n : Nat), slVs ad μ k n l = slVs ad μ' k n l
  | [], n => rfl
  | x :: t, n => by
    have e2 : slV ad μ k n x = slV ad μ' k n x := by
      match x with
      | 0 => simp only [slV]; rw [h]
      | 1 => simp only [slV]; rw [h2]
      | r + 2 => rfl
    simp only [slVs, slVs_ex ad h2 h t (n + 1), e2]
theorem wl_ex {cI cZ cG : ClassId} {ad : Nat → Nat} {μ μ' : mm} (h2 : μ.2 = μ'.2) : ∀ (l : List (Nat × Nat × List Nat)) (k : Nat), (∀ i, k ≤ i → i < k + l.length → μ.1 i = μ'.1 i) → wl cI cZ cG ad μ k l = wl cI cZ cG ad μ' k l
  | [], k, _ => rfl
  | c :: t, k, h => by
    have hk := h k (Nat.le_refl _) (by simp only [List.length_cons]; omega)
    have e : cE cI cZ cG ad μ k c = cE cI cZ cG ad μ' k c := by
      unfold cE
      rw [hk, slVs_ex ad h2 hk]
    simp only [wl, e, wl_ex h2 t (k + 1) (fun i h3 h4 => h i (by omega) (by simp only [List.length_cons]; omega))]
def mT : mm := (fun k j => iI (tb k j), 0)
theorem wd_r0 {cI cZ cG : ClassId} {ad : Nat → Nat} (L : Int) (X : Nat → Int32) : wd shp cI cZ cG ad mT = wd shp cI cZ cG ad (toM (r0 L X) 0) := by
  refine wl_ex (μ := mT) (μ' := toM (r0 L X) 0) rfl shp 0 (fun i h1 h2 => ?_)
  have h3 : i < 68 := by have : shp.length = 68 := rfl; omega
  funext j
  show iI (tb i j) = iI (r0 L X i j)
  rw [r0_tb L X _ (by omega) (by omega)]
abbrev adF (u : Nat → Nat → Nat) (h0 : Nat) (ad2 : Nat → Nat) (b : Nat) (ad0 : Nat → Nat) : Nat → Nat := adL [h0, u 0 0, u 1 0, u 2 0, u 3 0, u 4 0, u 5 0, u 6 0, u 7 0, u 8 0, u 0 1, u 0 2, u 0 3, u 0 4, u 0 5, u 0 6, u 0 7, u 0 8, u 0 9, u 0 10, u 0 11, u 0 12, u 0 13, u 0 14, u 0 15, u 0 16, u 0 17, u 1 1, u 1 2, u 1 3, u 1 4, u 1 5, u 2 1, u 2 2, u 2 3, u 2 4, u 2 5, u 3 1, u 4 1, u 4 2, u 5 1, u 5 2, u 6 1, u 7 1, u 7 2, u 7 3, u 7 4, u 7 5, u 8 1, u 8 2, u 8 3, ad2 0, ad2 1, ad2 2, ad2 3, ad2 4, ad2 5, ad2 6, ad2 7, ad2 8, ad2 9, ad2 10, ad2 11, ad2 12, ad2 13, ad2 14, ad2 15, ad2 16] (fun k => if k = 999 then b else ad0 k)
theorem grid_eq (u : Nat → Nat → Nat) (h0 : Nat) (ad2 : Nat → Nat) (b : Nat) (ad0 : Nat → Nat) : (fun (j : Nat) => (([8, 9, 10, 11, 12, 13, 14, 15, 16, 17] : List Nat)[j]?).map (u 0)) = fun (j : Nat) => (([17, 18, 19, 20, 21, 22, 23, 24, 25, 26] : List Nat)[j]?).map (adF u h0 ad2 b ad0) := by
  funext j
  by_cases hj : j < 10
  · rcases (show j = 0 ∨ j = 1 ∨ j = 2 ∨ j = 3 ∨ j = 4 ∨ j = 5 ∨ j = 6 ∨ j = 7 ∨ j = 8 ∨ j = 9 by omega) with rfl | rfl | rfl | rfl | rfl | rfl | rfl | rfl | rfl | rfl <;> rfl
  · rw [List.getElem?_eq_none (by simp only [List.length_cons, List.length_nil]; omega), List.getElem?_eq_none (by simp only [List.length_cons, List.length_nil]; omega)]
    rfl
abbrev wAll (cI cZ cG : ClassId) (u : Nat → Nat → Nat) (h0 : Nat) (ad2 : Nat → Nat) : va_W := [(h0, .inr (9, [.ref (u 0 0), .ref (u 1 0), .ref (u 2 0), .ref (u 3 0), .ref (u 4 0), .ref (u 5 0), .ref (u 6 0), .ref (u 7 0), .ref (u 8 0)])), (u 0 0, .inr (2, [.ref (u 0 1), .int (mT.1 1 1), .int (mT.1 1 2), .ref (u 0 2), .ref (u 0 3), .ref (u 0 4), .ref (u 0 5), .ref (u 0 6), .ref (u 0 7)])), (u 0 1, .inl (cI, 10, .inl (mT.1 10))), (u 0 2, .inl (cI, 10, .inl (mT.1 11))), (u 0 3, .inl (cI, 10, .inl (mT.1 12))), (u 0 4, .inl (cI, 8, .inl (mT.1 13))), (u 0 5, .inl (cI, 8, .inl (mT.1 14))), (u 0 6, .inl (cI, 8, .inl (mT.1 15))), (u 0 7, .inl (cG, 10, .inr (.inr (.inr (.inr (fun (j : Nat) => (([8, 9, 10, 11, 12, 13, 14, 15, 16, 17] : List Nat)[j]?).map (u 0))))))), (u 0 8, .inl (cI, 10, .inl (mT.1 17))), (u 0 9, .inl (cI, 10, .inl (mT.1 18))), (u 0 10, .inl (cI, 10, .inl (mT.1 19))), (u 0 11, .inl (cI, 10, .inl (mT.1 20))), (u 0 12, .inl (cI, 10, .inl (mT.1 21))), (u 0 13, .inl (cI, 10, .inl (mT.1 22))), (u 0 14, .inl (cI, 10, .inl (mT.1 23))), (u 0 15, .inl (cI, 10, .inl (mT.1 24))), (u 0 16, .inl (cI, 10, .inl (mT.1 25))), (u 0 17, .inl (cI, 10, .inl (mT.1 26))), (u 1 0, .inr (1, [.ref (u 1 1), .ref (u 1 2), .ref (u 1 3), .ref (u 1 4), .int (mT.1 2 4), .ref (u 0 0), .ref (u 1 5)])), (u 1 1, .inl (cI, 10, .inl (mT.1 27))), (u 1 2, .inl (cI, 10, .inl (mT.1 28))), (u 1 3, .inl (cI, 10, .inl (mT.1 29))), (u 1 4, .inl (cI, 10, .inl (mT.1 30))), (u 1 5, .inl (cI, 10, .inl (mT.1 31))), (u 2 0, .inr (4, [.int (mT.1 3 0), .int (mT.1 3 1), .int (mT.1 3 2), .int (mT.1 3 3), .int (mT.1 3 4), .ref (u 0 0), .ref (u 2 1), .ref (u 2 2), .ref (u 2 3), .ref (u 2 4), .ref (u 2 5)])), (u 2 1, .inl (cI, 6, .inl (mT.1 32))), (u 2 2, .inl (cI, 6, .inl (mT.1 33))), (u 2 3, .inl (cI, 6, .inl (mT.1 34))), (u 2 4, .inl (cI, 6, .inl (mT.1 35))), (u 2 5, .inl (cI, 6, .inl (mT.1 36))), (u 3 0, .inr (6, [.ref (u 3 1), .int (mT.1 4 1)])), (u 3 1, .inl (cI, 200, .inl (mT.1 37))), (u 4 0, .inr (3, [.int (mT.1 5 0), .ref (u 3 0), .ref (u 4 1), .ref (u 4 2), .int (mT.1 5 4), .int (mT.1 5 5), .int (mT.1 5 6), .int (mT.1 5 7), .int (mT.1 5 8), .int (mT.1 5 9), .int (mT.1 5 10), .int (mT.1 5 11)])), (u 4 1, .inl (cI, 10, .inl (mT.1 38))), (u 4 2, .inl (cI, 50, .inl (mT.1 39))), (u 5 0, .inr (8, [.int (mT.1 6 0), .int (mT.1 6 1), .ref (u 5 1), .ref (u 5 2)])), (u 5 1, .inl (cI, 2, .inl (mT.1 40))), (u 5 2, .inl (cI, 2, .inl (mT.1 41))), (u 6 0, .inr (7, [.int (mT.1 7 0), .int (mT.1 7 1), .int (mT.1 7 2), .int (mT.1 7 3), .ref (u 0 0), .ref (u 6 1)])), (u 6 1, .inl (cI, 12, .inl (mT.1 42))), (u 7 0, .inr (0, [.int (mT.1 8 0), .ref (u 0 0), .ref (u 7 1), .ref (u 7 2), .ref (u 7 3), .ref (u 7 4), .ref (u 7 5)])), (u 7 1, .inl (cI, 10, .inl (mT.1 43))), (u 7 2, .inl (cI, 10, .inl (mT.1 44))), (u 7 3, .inl (cI, 10, .inl (mT.1 45))), (u 7 4, .inl (cI, 10, .inl (mT.1 46))), (u 7 5, .inl (cI, 10, .inl (mT.1 47))), (u 8 0, .inr (5, [.int (mT.1 9 0), .ref (u 0 0), .ref (u 8 1), .ref (u 8 2), .ref (u 8 3)])), (u 8 1, .inl (cI, 12, .inl (mT.1 48))), (u 8 2, .inl (cI, 12, .inl (mT.1 49))), (u 8 3, .inl (cI, 12, .inl (mT.1 50))), (ad2 0, .inr (10, [.int (mT.1 51 0), .ref (ad2 1), .ref (ad2 2), .int (mT.1 51 3), .ref (ad2 3), .int (mT.1 51 5), .ref (ad2 4), .int (mT.1 51 7), .ref (ad2 5), .ref (ad2 6), .int (mT.1 51 10), .ref (ad2 7), .int (mT.1 51 12), .int (mT.1 51 13), .long mT.2, .int (mT.1 51 15), .int (mT.1 51 16), .int (mT.1 51 17), .int (mT.1 51 18), .int (mT.1 51 19), .int (mT.1 51 20), .int (mT.1 51 21), .int (mT.1 51 22), .ref (ad2 8), .int (mT.1 51 24), .int (mT.1 51 25), .ref (ad2 9), .ref (ad2 10), .int (mT.1 51 28), .ref (ad2 11), .int (mT.1 51 30), .ref (ad2 12), .int (mT.1 51 32), .ref (ad2 13), .ref (ad2 14), .ref (ad2 15), .ref (ad2 16)])), (ad2 1, .inl (cI, 10, .inl (mT.1 52))), (ad2 2, .inl (cI, 10, .inl (mT.1 53))), (ad2 3, .inl (cI, 24, .inl (mT.1 54))), (ad2 4, .inl (cI, 30, .inl (mT.1 55))), (ad2 5, .inl (cI, 30, .inl (mT.1 56))), (ad2 6, .inl (cI, 100, .inl (mT.1 57))), (ad2 7, .inl (cI, 200, .inl (mT.1 58))), (ad2 8, .inl (cI, 60, .inl (mT.1 59))), (ad2 9, .inl (cI, 4, .inl (mT.1 60))), (ad2 10, .inl (cZ, 2, .inl (mT.1 61))), (ad2 11, .inl (cI, 12, .inl (mT.1 62))), (ad2 12, .inl (cI, 40, .inl (mT.1 63))), (ad2 13, .inl (cI, 36, .inl (mT.1 64))), (ad2 14, .inl (cI, 10, .inl (mT.1 65))), (ad2 15, .inl (cI, 10, .inl (mT.1 66))), (ad2 16, .inl (cI, 10, .inl (mT.1 67)))]
set_option maxHeartbeats 4000000 in
set_option maxRecDepth 100000 in
theorem wAll_of (cI cZ cG : ClassId) (u : Nat → Nat → Nat) (h0 : Nat) (ad2 : Nat → Nat) : ([] ++ wMB cI cZ cG h0 u) ++ wd shM cI cZ cG ad2 mM2 = wAll cI cZ cG u h0 ad2 := by
  rfl
set_option maxHeartbeats 4000000 in
set_option maxRecDepth 100000 in
theorem wAll_to (cI cZ cG : ClassId) (u : Nat → Nat → Nat) (h0 : Nat) (ad2 : Nat → Nat) (b : Nat) (ad0 : Nat → Nat) : ([0, 1, 19, 25, 31, 33, 36, 39, 41, 47, 2, 3, 4, 5, 6, 7, 8, 9, 10, 11, 12, 13, 14, 15, 16, 17, 18, 20, 21, 22, 23, 24, 26, 27, 28, 29, 30, 32, 34, 35, 37, 38, 40, 42, 43, 44, 45, 46, 48, 49, 50, 51, 52, 53, 54, 55, 56, 57, 58, 59, 60, 61, 62, 63, 64, 65, 66, 67] : List Nat).map (fun i => (wAll cI cZ cG u h0 ad2)[i]?) = (wd shp cI cZ cG (adF u h0 ad2 b ad0) mT).map some := by
  unfold wAll
  rw [grid_eq u h0 ad2 b ad0]
  rfl
