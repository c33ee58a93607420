/-! what stands at the law's entry -/
def stm (i : Nat) : Term := .string RX3 (([103, 109, 111, 113, 115, 117, 119] : List Nat).getD i 0)
abbrev fl1 : List Cond := flatC (Jvm.Cond.and given_1 narrow_1)
theorem st_ex : ∀ i : Fin 7, Cond.exactly (stm i.1) "java/lang/String" ∈ fl1 := by decide +kernel
theorem st_co : ∀ i : Fin 7, Cond.eq (.field (stm i.1) "java/lang/String" "coder" "B") (.int 0) ∈ fl1 := by decide +kernel
theorem st_ar : ∀ i : Fin 7, Cond.arrayOf (.field (stm i.1) "java/lang/String" "value" "[B") .byte ∈ fl1 := by decide +kernel
theorem st_le : ∀ i : Fin 7, Cond.eq (.length (.field (stm i.1) "java/lang/String" "value" "[B")) (.int (Int32.ofNat (jsl.getD i.1 0))) ∈ fl1 := by decide +kernel
theorem st_el : ∀ i : Fin 7, ∀ j : Fin 6, j.1 < jsl.getD i.1 0 → Cond.eq (.elem (.field (stm i.1) "java/lang/String" "value" "[B") (.int (Int32.ofNat j.1))) (.int ((jsb.getD i.1 []).getD j.1 0)) ∈ fl1 := by decide +kernel
theorem st_ne : ∀ i j : Fin 7, i.1 ≠ j.1 → Cond.not (Cond.eq (stm i.1) (stm j.1)) ∈ fl1 ∨ Cond.not (Cond.eq (stm j.1) (stm i.1)) ∈ fl1 := by decide +kernel
theorem st_cs : Cond.eq (.static "java/lang/String" "COMPACT_STRINGS" "Z") (.int 1) ∈ fl1 := by decide +kernel
theorem st_fm : Cond.isRef (.static "jdk/internal/util/Preconditions" "SIOOBE_FORMATTER" fmD) ∈ fl1 := by decide +kernel
theorem jsl_6 : ∀ i : Fin 7, jsl.getD i.1 0 ≤ 6 := by decide +kernel
theorem tb_l1 : Cond.laysStatic "java/lang/String" "COMPACT_STRINGS" "Z" ∈ lw_tbl := List.mem_of_getElem? (i := 486) (by decide +kernel)
theorem tb_l2 : Cond.laysStatic "jdk/internal/util/Preconditions" "SIOOBE_FORMATTER" fmD ∈ lw_tbl := List.mem_of_getElem? (i := 502) (by decide +kernel)
theorem tb_i1 : Cond.initialized "java/lang/String" ∈ lw_tbl := List.mem_of_getElem? (i := 64) (by decide +kernel)
theorem tb_i2 : Cond.initialized "jdk/internal/util/Preconditions" ∈ lw_tbl := List.mem_of_getElem? (i := 66) (by decide +kernel)
theorem tb_ao : Cond.arrayOver (.array .int) ∈ lw_tbl := List.mem_of_getElem? (i := 84) (by decide +kernel)
theorem tb_nw : Cond.methodLinkNest (cnm 9) 34 (my 68) "MinuteBehind" ∈ lw_tbl := List.mem_of_getElem? (i := 229) (by decide +kernel)
theorem tb_st (i : Nat) (hi : i < 7) : ∃ tx, (jst[i]?) = some (([103, 109, 111, 113, 115, 117, 119] : List Nat).getD i 0, tx, 1000 + i) ∧ Cond.stringRef RX3 (([103, 109, 111, 113, 115, 117, 119] : List Nat).getD i 0) tx ∈ lw_tbl := by
  rcases (show i = 0 ∨ i = 1 ∨ i = 2 ∨ i = 3 ∨ i = 4 ∨ i = 5 ∨ i = 6 by omega) with rfl | rfl | rfl | rfl | rfl | rfl | rfl
  · exact ⟨_, rfl, List.mem_of_getElem? (i := 472) (by decide +kernel)⟩
  · exact ⟨_, rfl, List.mem_of_getElem? (i := 525) (by decide +kernel)⟩
  · exact ⟨_, rfl, List.mem_of_getElem? (i := 526) (by decide +kernel)⟩
  · exact ⟨_, rfl, List.mem_of_getElem? (i := 527) (by decide +kernel)⟩
  · exact ⟨_, rfl, List.mem_of_getElem? (i := 528) (by decide +kernel)⟩
  · exact ⟨_, rfl, List.mem_of_getElem? (i := 529) (by decide +kernel)⟩
  · exact ⟨_, rfl, List.mem_of_getElem? (i := 530) (by decide +kernel)⟩
theorem vk_S_cg {N : Nat} {len : List Nat} {byt : List (List Int32)} {adK adV adK' adV' : Nat → Nat} {A : Nat → Prop} {U : State} {H : Heap} (h : vk_S N len byt adK adV A U H) (h1 : ∀ i, i < N → adK' i = adK i) (h2 : ∀ i, i < N → adV' i = adV i) : vk_S N len byt adK' adV' A U H := by
  refine ⟨fun i hi => ?_, fun i j hi hj e => ?_⟩
  · rw [h1 i hi, h2 i hi]; exact h.1 i hi
  · rw [h1 i hi, h1 j hj] at e; exact h.2 i j hi hj e
theorem arr_k {s : State} {args : Array Value} {ty : FieldType} (h : (Cond.arrayClass ty).before args s = true) (hra : ∀ cA : ClassId, s.vm.findClass ("[" ++ ty.toString) = some cA → va_RA s cA ty) : ∃ cA, ArrOfT s cA ty ∧ va_RA s cA ty := by
  obtain ⟨cA, kA, comp, h1, h2, h3⟩ := Cond.arrayClass_spec h
  exact ⟨cA, fun n z => ⟨fun k h => (by cases h), kA, h2, comp, h3⟩, hra cA h1⟩
theorem arr_g {s : State} (h : AOI s) : ∃ cA, ArrOfT s cA (.array .int) ∧ va_RA s cA (.array .int) := by
  obtain ⟨comp, cA, kA, h1, -, h2, h3, h4⟩ := h.spec
  exact ⟨cA, fun n z => ⟨fun k h => (by cases h), kA, h2, comp, h3⟩, h4⟩
theorem in_isMB : Cond.instantiable (cnm 9) 9 ∈ gtb := g_of (List.mem_of_getElem? (i := 70) (by decide +kernel)) rfl
theorem in_isMo : Cond.instantiable (cnm 10) 37 ∈ gtb := g_of (List.mem_of_getElem? (i := 913) (by decide +kernel)) rfl
theorem kn_start {s : State} {args : Array Value} (hts : ∀ w ∈ gtb, w.before args s = true) : ∃ D : va_G, ∀ (c : Nat) (q : vw_C), vwCl[c]? = some q → u_Kn s q.1 q.2.1 q.2.2 (D.1 c) (D.2 c) := by
  obtain ⟨c0, i0, h0⟩ := u_known (C := RX0) (T := TX0) (N := 7) (n := 7) hts inX0 (hts _ in_is0)
  obtain ⟨c1, i1, h1⟩ := u_known (C := RX1) (T := TX1) (N := 7) (n := 7) hts inX1 (hts _ in_is9)
  obtain ⟨c2, i2, h2⟩ := u_known (C := RX2) (T := TX2) (N := 9) (n := 9) hts inX2 (hts _ in_is23)
  obtain ⟨c3, i3, h3⟩ := u_known (C := RX3) (T := TX3) (N := 12) (n := 12) hts inX3 (hts _ in_is40)
  obtain ⟨c4, i4, h4⟩ := u_known (C := RX4) (T := TX4) (N := 11) (n := 11) hts inX4 (hts _ in_is58)
  obtain ⟨c5, i5, h5⟩ := u_known (C := RX5) (T := TX5) (N := 5) (n := 5) hts inX5 (hts _ in_is62)
  obtain ⟨c6, i6, h6⟩ := u_known (C := RX6) (T := TX6) (N := 2) (n := 2) hts inX6 (hts _ in_is68)
  obtain ⟨c7, i7, h7⟩ := u_known (C := RX7) (T := TX7) (N := 6) (n := 6) hts inX7 (hts _ in_is71)
  obtain ⟨c8, i8, h8⟩ := u_known (C := RX8) (T := TX8) (N := 4) (n := 4) hts inX8 (hts _ in_is75)
  obtain ⟨c9, i9, h9⟩ := u_known (C := RX9) (T := TX9) (N := 9) (n := 9) hts inX9 (hts _ in_isMB)
  obtain ⟨c10, i10, h10⟩ := u_known (C := RX10) (T := TX10) (N := 37) (n := 37) hts inX10 (hts _ in_isMo)
  refine ⟨(fun k => ([c0, c1, c2, c3, c4, c5, c6, c7, c8, c9, c10] : List ClassId).getD k c0, fun k => ([i0, i1, i2, i3, i4, i5, i6, i7, i8, i9, i10] : List (Nat → Nat)).getD k i0), fun c q hq => ?_⟩
  match c, hq with
  | 0, hq => cases hq; exact h0
  | 1, hq => cases hq; exact h1
  | 2, hq => cases hq; exact h2
  | 3, hq => cases hq; exact h3
  | 4, hq => cases hq; exact h4
  | 5, hq => cases hq; exact h5
  | 6, hq => cases hq; exact h6
  | 7, hq => cases hq; exact h7
  | 8, hq => cases hq; exact h8
  | 9, hq => cases hq; exact h9
  | 10, hq => cases hq; exact h10
  | k + 11, hq => simp [vwCl] at hq
theorem ev_start {s : State} {args : Array Value} (htl : ∀ w ∈ lw_tbl, w.before args s = true) (hgv : (Jvm.Cond.and given_1 narrow_1).before args s = true) : ∃ (D : va_G) (cI cZ cG : ClassId) (ad0 : Nat → Nat) (fm : Value), Ev D cI cZ cG ad0 fm (fun q => s.heap.size ≤ q) s := by
  have hts : ∀ w ∈ gtb, w.before args s = true := fun w hw => htl w (gtb_good hw).1
  have hs := flat_of_before _ hgv
  have hA : ∀ a : Nat, a < s.heap.size → ¬ (fun q : Nat => s.heap.size ≤ q) a := fun a h1 h2 => absurd h1 (Nat.not_lt.mpr h2)
  obtain ⟨D, hKn⟩ := kn_start hts
  obtain ⟨cI, a1, a2⟩ := arr_k (ty := .int) (hts _ in_aI) (fun _ h => h)
  obtain ⟨cZ, b1, b2⟩ := arr_k (ty := .boolean) (hts _ in_aZ) (fun _ h => h)
  obtain ⟨cG, g1, g2⟩ := arr_g (s := s) (htl _ tb_ao)
  have hz1 := va_Zof (A := fun q => s.heap.size ≤ q) (htl _ tb_l1) (htl _ tb_i1) (va_eqt (hs _ st_cs)) hA
  have hz2 := va_Zqof (A := fun q => s.heap.size ≤ q) (htl _ tb_l2) (htl _ tb_i2) (hs _ st_fm) hA
  obtain ⟨fm, hf1, hf2⟩ : ∃ fm : Value, fm.category = 1 ∧ va_Z "jdk/internal/util/Preconditions" "SIOOBE_FORMATTER" fmD fm (fun q => s.heap.size ≤ q) s s.heap := by
    rcases hz2 with h | ⟨t, h⟩
    · exact ⟨.null, rfl, h⟩
    · exact ⟨.ref t, rfl, h⟩
  obtain ⟨adK, adV, k1, k2⟩ := vk_Sof (args := args) (s := s) (N := 7) (tm := stm) (len := jsl) (byt := jsb) (A := fun q => s.heap.size ≤ q) (fun i hi => by have := jsl_6 ⟨i, hi⟩; dsimp only at this; omega) (fun i hi => hs _ (st_ex ⟨i, hi⟩)) (fun i hi => hs _ (st_co ⟨i, hi⟩)) (fun i hi => hs _ (st_ar ⟨i, hi⟩)) (fun i hi => hs _ (st_le ⟨i, hi⟩)) (fun i hi j hj => hs _ (st_el ⟨i, hi⟩ ⟨j, by have := jsl_6 ⟨i, hi⟩; dsimp only at this; omega⟩ hj)) (fun i j hi hj hij => (st_ne ⟨i, hi⟩ ⟨j, hj⟩ hij).imp (hs _) (hs _)) hA
  refine ⟨D, cI, cZ, cG, fun k => if k < 1100 then adK (k - 1000) else adV (k - 1100), fm, ⟨hKn, fun k q hq => ?_⟩, hf1, hz1, hf2, vk_S_cg k1 (fun i hi => ?_) (fun i hi => ?_), fun q hq => ?_⟩
  · match k, hq with
    | 0, hq => cases hq; exact ⟨a1, a2⟩
    | 1, hq => cases hq; exact ⟨b1, b2⟩
    | 2, hq => cases hq; exact ⟨g1, g2⟩
    | k + 3, hq => simp at hq
  · show (if 1000 + i < 1100 then adK (1000 + i - 1000) else adV (1000 + i - 1100)) = adK i
    rw [if_pos (by omega), Nat.add_sub_cancel_left]
  · show (if 1100 + i < 1100 then adK (1100 + i - 1000) else adV (1100 + i - 1100)) = adV i
    rw [if_neg (by omega), Nat.add_sub_cancel_left]
  · obtain ⟨i, hi, hqi⟩ := List.getElem_of_mem hq
    have hi7 : i < 7 := hi
    obtain ⟨tx, e1, e2⟩ := tb_st i hi7
    have e3 : jst[i]? = some q := by rw [List.getElem?_eq_getElem hi, hqi]
    rw [e1] at e3
    cases e3
    refine vk_R.of (htl _ e2) ?_
    have := k2 i hi7
    show (stm i).eval args s none [] s = some (.ref (if 1000 + i < 1100 then adK (1000 + i - 1000) else adV (1000 + i - 1100)))
    rw [if_pos (by omega), Nat.add_sub_cancel_left]
    exact this
