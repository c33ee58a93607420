/-! memory: fields, arrays, statics -/
theorem vw_11 {ci : Nat} (h : ci < 11) : ∃ C T N, vwCl[ci]? = some (C, T, N) ∧ ((vwCl[ci]?).getD (RX0, TX0, 0)) = (C, T, N) ∧ (∀ w ∈ u_ws C T N, w ∈ gtb) ∧ (∃ ty0 : Nat → FieldType, ∀ k, k < N → parseFieldDescriptor (T k).2.2.1 = some (ty0 k)) ∧ ∀ a, a < N → ∀ b, b < N → a ≠ b → (T a).2.1 ≠ (T b).2.1 := by
  rcases (show ci = 0 ∨ ci = 1 ∨ ci = 2 ∨ ci = 3 ∨ ci = 4 ∨ ci = 5 ∨ ci = 6 ∨ ci = 7 ∨ ci = 8 ∨ ci = 9 ∨ ci = 10 by omega) with rfl | rfl | rfl | rfl | rfl | rfl | rfl | rfl | rfl | rfl | rfl
  · exact ⟨RX0, TX0, 7, rfl, rfl, inX0, ⟨tyX0, tyX0_ok⟩, nmX0⟩
  · exact ⟨RX1, TX1, 7, rfl, rfl, inX1, ⟨tyX1, tyX1_ok⟩, nmX1⟩
  · exact ⟨RX2, TX2, 9, rfl, rfl, inX2, ⟨tyX2, tyX2_ok⟩, nmX2⟩
  · exact ⟨RX3, TX3, 12, rfl, rfl, inX3, ⟨tyX3, tyX3_ok⟩, nmX3⟩
  · exact ⟨RX4, TX4, 11, rfl, rfl, inX4, ⟨tyX4, tyX4_ok⟩, nmX4⟩
  · exact ⟨RX5, TX5, 5, rfl, rfl, inX5, ⟨tyX5, tyX5_ok⟩, nmX5⟩
  · exact ⟨RX6, TX6, 2, rfl, rfl, inX6, ⟨tyX6, tyX6_ok⟩, nmX6⟩
  · exact ⟨RX7, TX7, 6, rfl, rfl, inX7, ⟨tyX7, tyX7_ok⟩, nmX7⟩
  · exact ⟨RX8, TX8, 4, rfl, rfl, inX8, ⟨tyX8, tyX8_ok⟩, nmX8⟩
  · exact ⟨RX9, TX9, 9, rfl, rfl, inX9, ⟨tyX9, tyX9_ok⟩, nmX9⟩
  · exact ⟨RX10, TX10, 37, rfl, rfl, inX10, ⟨tyX10, tyX10_ok⟩, nmX10⟩
/-- the slots of the cells are as many as the class has fields; ints stand where the field is an int that is no final, the long likewise -/
def shk (c : Nat × Nat × List Nat) : Bool := if c.1 < 11 then (match vwCl[c.1]? with
    | some q => decide (c.2.2.length = q.2.2) && (List.range q.2.2).all (fun j => match c.2.2[j]? with
      | some 0 => decide ((q.2.1 j).2.2.2 = false) && decide (parseFieldDescriptor (q.2.1 j).2.2.1 = some .int)
      | some 1 => decide ((q.2.1 j).2.2.2 = false) && decide (parseFieldDescriptor (q.2.1 j).2.2.1 = some .long)
      | _ => true)
    | none => false) else true
/-- a shape that will do -/
def okS (sh : List (Nat × Nat × List Nat)) : Bool := sh.all shk && (sh.all (fun c => c.2.2.all (fun r => decide (r < 998))) && (decide (sh.length ≤ 998) && lgk sh))
theorem okS_shk {sh : List (Nat × Nat × List Nat)} (h : okS sh = true) : sh.all shk = true := (Bool.and_eq_true _ _ ▸ h).1
theorem okS_small {sh : List (Nat × Nat × List Nat)} (h : okS sh = true) : sh.all (fun c => c.2.2.all (fun r => decide (r < 998))) = true := (Bool.and_eq_true _ _ ▸ (Bool.and_eq_true _ _ ▸ h).2).1
theorem okS_len {sh : List (Nat × Nat × List Nat)} (h : okS sh = true) : sh.length ≤ 998 := of_decide_eq_true (Bool.and_eq_true _ _ ▸ (Bool.and_eq_true _ _ ▸ (Bool.and_eq_true _ _ ▸ h).2).2).1
theorem okS_lg {sh : List (Nat × Nat × List Nat)} (h : okS sh = true) : lgk sh = true := (Bool.and_eq_true _ _ ▸ (Bool.and_eq_true _ _ ▸ (Bool.and_eq_true _ _ ▸ h).2).2).2
theorem shp_lt {sh : List (Nat × Nat × List Nat)} (hsh : okS sh = true) {k : Nat} {x : Nat × Nat × List Nat} (h : sh[k]? = some x) : k < 998 := Nat.lt_of_lt_of_le (List.getElem?_eq_some_iff.mp h).1 (okS_len hsh)
theorem shk_of {sh : List (Nat × Nat × List Nat)} (hsh : okS sh = true) {k : Nat} {c n : Nat} {sl0 : List Nat} (h : sh[k]? = some (c, n, sl0)) (hc : c < 11) {C : String} {T : u_T} {N : Nat} (hv : vwCl[c]? = some (C, T, N)) : sl0.length = N ∧ ∀ j, (sl0[j]? = some 0 → (T j).2.2.2 = false ∧ parseFieldDescriptor (T j).2.2.1 = some .int) ∧ (sl0[j]? = some 1 → (T j).2.2.2 = false ∧ parseFieldDescriptor (T j).2.2.1 = some .long) := by
  have h1 := all_at (okS_shk hsh) (List.mem_of_getElem? h)
  unfold shk at h1
  simp only [hc, if_true, hv, Bool.and_eq_true, decide_eq_true_eq] at h1
  refine ⟨h1.1, fun j => ?_⟩
  by_cases hj : j < N
  · have h2 := all_at h1.2 (List.mem_range.mpr hj)
    constructor
    · intro h3
      simpa [h3] using h2
    · intro h3
      simpa [h3] using h2
  · constructor <;> (intro h3; exact absurd (List.getElem?_eq_some_iff.mp h3).1 (by rw [h1.1]; exact hj))
theorem cE_obj {cI cZ cG : ClassId} {ad : Nat → Nat} {μ : mm} {k c n : Nat} {sl0 : List Nat} (hc : c < 11) : cE cI cZ cG ad μ k (c, n, sl0) = .inr (c, slVs ad μ k 0 sl0) := by
  unfold cE
  rw [if_neg (by show ¬ c = 100; omega), if_neg (by show ¬ c = 101; omega), if_neg (by show ¬ c = 102; omega)]
theorem str_v : Cond.fieldLink (cnm 20) 9 "java/lang/String" "value" "[B" ∈ lw_tbl := List.mem_of_getElem? (i := 1299) (by decide +kernel)
theorem str_c : Cond.fieldLink (cnm 20) 15 "java/lang/String" "coder" "B" ∈ lw_tbl := List.mem_of_getElem? (i := 1300) (by decide +kernel)
theorem str_s1 : Cond.fieldLink (cnm 20) 38 "java/lang/String" "COMPACT_STRINGS" "Z" ∈ lw_tbl := List.mem_of_getElem? (i := 485) (by decide +kernel)
theorem str_s2 : Cond.fieldLink (cnm 20) 1053 "jdk/internal/util/Preconditions" "SIOOBE_FORMATTER" "Ljava/util/function/BiFunction;" ∈ lw_tbl := List.mem_of_getElem? (i := 501) (by decide +kernel)
section SIM2
variable {sh : List (Nat × Nat × List Nat)}
variable {p : Program} {l : Launch} {e : Env} {R : Room} {s : State} {m : MethodId} {args : Array Value} {below : List Frame} {meth : Method} {c : Code} {H : Heap} {locs : List Loc} {cells slots : Nat} {Q : State → Prop}
variable {D : va_G} {cI cZ cG : ClassId} {ad : Nat → Nat} {fm : Value} {A : Nat → Prop} {y pc : Nat} {lv : List (Option Value)} {st : List Value} {μ : mm} {ls : Array Slot} {t : mS}
theorem tr_lt {k : Nat} (h : k < 1200) : tr ad fm (.ref k) = .ref (ad k) := by simp [tr, rv, show ¬ k = 1200 by omega]

theorem gfd_inv {i k : Nat} {v : Value} (hsh : okS sh = true) (h : gfd sh y i k μ = some v) : ∃ ci j n sl0, fld (mo y) i = some (ci, j) ∧ ci < 11 ∧ sh[k]? = some (ci, n, sl0) ∧ (slVs ad μ k 0 sl0)[j]? = some (tr ad fm v) ∧ j < sl0.length := by
  unfold gfd at h
  split at h
  · rename_i ci j hf
    split at h
    · rename_i c0 n sl0 hs
      split at h
      · rename_i hc
        obtain ⟨rfl, hc⟩ := hc
        refine ⟨_, j, n, sl0, hf, hc, hs, ?_⟩
        rw [slVs_get, Nat.zero_add]
        split at h
        · rename_i hj; cases h; rw [hj]; exact ⟨rfl, (List.getElem?_eq_some_iff.mp hj).1⟩
        · rename_i hj; cases h; rw [hj]; exact ⟨rfl, (List.getElem?_eq_some_iff.mp hj).1⟩
        · rename_i r hj
          cases h
          rw [hj]
          have h3 := all_at (okS_small hsh) (List.mem_of_getElem? hs)
          have h4 := all_at h3 (List.mem_of_getElem? hj)
          simp only [decide_eq_true_eq] at h4
          refine ⟨?_, (List.getElem?_eq_some_iff.mp hj).1⟩
          simp [slV, tr_lt (show r < 1200 by omega)]
        · cases h
      · cases h
    · cases h
  · cases h
theorem sm_getfield {i : Nat} (hsh : okS sh = true) (C : Cx p s m args meth c R y) (E : Ev D cI cZ cG ad fm A s) (hX : mo y = 11 → SC ad A s μ) (hi : ins y pc = some (.getfield i)) (h : ex sh y pc lv st μ (.getfield i) = some (.inl t)) (hl : LV ad fm y ls lv) (hw : Wo sh D cI cZ cG ad A s H locs μ) (k : Kn sh p l e R s m args below meth c cells slots Q D cI cZ cG ad fm A y t) : W p l e R s m args below meth c H locs cells slots Q (F0 m pc ls (st.map (tr ad fm))) := by
  obtain ⟨n9, hd, hn⟩ := ins_dec hi
  cases (show n9 = 3 from hn)
  simp only [ex] at h
  split at h
  · rename_i q r
    split at h
    · split at h
      · rename_i hq x9 v hv
        simp only [nx, Option.some.injEq, Sum.inl.injEq] at h; subst h
        obtain ⟨ci, j, n, sl0, h1, h2, h3, h4, h5⟩ := gfd_inv (ad := ad) (fm := fm) hsh hv
        obtain ⟨CC, T, N, v1, v2, v3, -, -⟩ := vw_11 h2
        have hN := (shk_of hsh h3 h2 v1).1
        have hlink := C.2.2.2.2.2.2.1 _ (g_of (fld_w h1) rfl)
        unfold fwd at hlink
        simp only [v2] at hlink
        have hgo := k _ _ _ hl hw
        have hwd := wd_get cI cZ cG ad μ h3
        rw [cE_obj h2] at hwd
        show W p l e R s m args below meth c H locs cells slots Q (F0 m pc ls (tr ad fm (.ref q) :: r.map (tr ad fm)))
        rw [tr_lt (Nat.lt_of_lt_of_le hq (by decide))]
        exact va_get (D := D) (ci := ci) (v := tr ad fm v) (C := CC) (T := T) (N := N) C.1 C.2.1 C.2.2.2.2.2.2.1 v3 C.2.2.2.2.2.1 E.1 hw.1 q hwd v1 j (by rw [← hN]; exact h5) hlink (fun _ h9 => h9) h4 hd hgo
      · cases h
    · rename_i hq
      split at h
      · rename_i v hv
        simp only [nx, Option.some.injEq, Sum.inl.injEq] at h; subst h
        have hgo := k _ _ _ hl hw
        unfold gst at hv
        split at hv
        · rename_i hm
          obtain ⟨k9, rfl⟩ : ∃ k9 : Nat, q = 1000 + k9 := ⟨q - 1000, (Nat.add_sub_cancel' (Nat.not_lt.mp hq)).symm⟩
          have hk9 : k9 < 7 := Nat.lt_of_add_lt_add_left (show 1000 + k9 < 1000 + 7 from hm.2)
          obtain ⟨-, e2, e3, -⟩ := E.2.2.2.2.1.1 k9 hk9
          have hown := C.2.2.2.2.2.1
          rw [hm.1] at hown
          show W p l e R s m args below meth c H locs cells slots Q (F0 m pc ls (tr ad fm (.ref (1000 + k9)) :: r.map (tr ad fm)))
          rw [tr_lt (show 1000 + k9 < 1200 by omega)]
          split at hv
          · rename_i hi9
            subst hi9
            cases hv
            have h7 : tr ad fm (.ref (1000 + k9 + 100)) = .ref (ad (1100 + k9)) := by rw [tr_lt (show 1000 + k9 + 100 < 1200 by omega), show 1000 + k9 + 100 = 1100 + k9 by omega]
            simp only [List.map_cons, h7] at hgo
            exact vk_getf C.1 C.2.1 e3 hw.2.2 hown (C.2.2.2.2.2.2.1 _ (g_of str_v rfl)) (fun _ h9 => h9) hd hgo
          · split at hv
            · rename_i hi9
              subst hi9
              cases hv
              exact vk_getf C.1 C.2.1 e2 hw.2.2 hown (C.2.2.2.2.2.2.1 _ (g_of str_c rfl)) (fun _ h9 => h9) hd hgo
            · cases hv
        · cases hv
      · cases h
  · cases h
theorem sm_getstatic {i : Nat} (hsh : okS sh = true) (C : Cx p s m args meth c R y) (E : Ev D cI cZ cG ad fm A s) (hX : mo y = 11 → SC ad A s μ) (hi : ins y pc = some (.getstatic i)) (h : ex sh y pc lv st μ (.getstatic i) = some (.inl t)) (hl : LV ad fm y ls lv) (hw : Wo sh D cI cZ cG ad A s H locs μ) (k : Kn sh p l e R s m args below meth c cells slots Q D cI cZ cG ad fm A y t) : W p l e R s m args below meth c H locs cells slots Q (F0 m pc ls (st.map (tr ad fm))) := by
  obtain ⟨n9, hd, hn⟩ := ins_dec hi
  cases (show n9 = 3 from hn)
  simp only [ex] at h
  split at h
  · rename_i hm
    obtain ⟨hm, rfl⟩ := hm
    have hown := C.2.2.2.2.2.1
    rw [hm] at hown
    simp only [nx, Option.some.injEq, Sum.inl.injEq] at h; subst h
    exact va_gets C.1 C.2.1 E.2.2.1 hw.2.2 hown (C.2.2.2.2.2.2.1 _ (g_of str_s1 rfl)) (fun _ h9 => h9) hd (k _ _ _ hl hw)
  · split at h
    · rename_i hm
      obtain ⟨hm, rfl⟩ := hm
      have hown := C.2.2.2.2.2.1
      rw [hm] at hown
      simp only [nx, Option.some.injEq, Sum.inl.injEq] at h; subst h
      have hgo := k _ _ _ hl hw
      have h7 : tr ad fm (.ref 1200) = fm := by simp [tr, rv]
      simp only [List.map_cons, h7] at hgo
      exact va_gets C.1 C.2.1 E.2.2.2.1 hw.2.2 hown (C.2.2.2.2.2.2.1 _ (g_of str_s2 rfl)) (fun _ h9 => h9) hd hgo
    · cases h
theorem sm_putfield {i : Nat} (hsh : okS sh = true) (C : Cx p s m args meth c R y) (E : Ev D cI cZ cG ad fm A s) (hX : mo y = 11 → SC ad A s μ) (hi : ins y pc = some (.putfield i)) (h : ex sh y pc lv st μ (.putfield i) = some (.inl t)) (hl : LV ad fm y ls lv) (hw : Wo sh D cI cZ cG ad A s H locs μ) (k : Kn sh p l e R s m args below meth c cells slots Q D cI cZ cG ad fm A y t) : W p l e R s m args below meth c H locs cells slots Q (F0 m pc ls (st.map (tr ad fm))) := by
  obtain ⟨n9, hd, hn⟩ := ins_dec hi
  cases (show n9 = 3 from hn)
  simp only [ex] at h
  split at h
  · rename_i x q r
    split at h
    · rename_i ci j hf
      split at h
      · rename_i c0 n sl0 hs
        split at h
        · rename_i hc
          obtain ⟨rfl, hc, hj⟩ := hc
          simp only [nx, Option.some.injEq, Sum.inl.injEq] at h; subst h
          obtain ⟨CC, T, N, v1, v2, v3, ⟨ty0, v4⟩, v5⟩ := vw_11 hc
          obtain ⟨hN, hT⟩ := shk_of hsh hs hc v1
          obtain ⟨t1, t2⟩ := (hT j).1 hj
          have hlink := C.2.2.2.2.2.2.1 _ (g_of (fld_w hf) rfl)
          unfold fwd at hlink
          simp only [v2] at hlink
          have hwd := wd_get cI cZ cG ad μ hs
          rw [cE_obj hc] at hwd
          have hjl : j < sl0.length := (List.getElem?_eq_some_iff.mp hj).1
          have hset : (wd sh cI cZ cG ad μ).set q (ad q, .inr (c0, (slVs ad μ q 0 sl0).set j (.int x))) = wd sh cI cZ cG ad (mup μ q j x) := by
            refine wd_set hs ?_ (fun i d hd' hi' => cE_mup cI cZ cG ad μ j x hi' d)
            rw [cE_obj hc, slVs_set ad μ q x sl0 0 j hj, Nat.zero_add]
          show W p l e R s m args below meth c H locs cells slots Q (F0 m pc ls (.int x :: tr ad fm (.ref q) :: r.map (tr ad fm)))
          rw [tr_lt (Nat.lt_of_lt_of_le (shp_lt hsh hs) (by decide))]
          refine va_put (D := D) (ci := c0) (v := .int x) (ty := .int) (C := CC) (T := T) (N := N) C.1 C.2.1 C.2.2.2.2.2.2.1 v3 ty0 v4 v5 C.2.2.2.2.2.1 E.1 hw.1 hw.2.1 hw.2.2 q hwd v1 j (by rw [← hN]; exact hjl) hlink (fun _ h9 => h9) t1 t2 rfl rfl (by rw [slVs_len]; exact hjl) hd (fun H1 locs1 g1 g2 g3 => ?_)
          rw [hset] at g1 g2
          exact k _ _ _ hl ⟨g1, g2, g3⟩
        · cases h
      · cases h
    · cases h
  · rename_i x q r
    split at h
    · rename_i ci j hf
      split at h
      · rename_i c0 n sl0 hs
        split at h
        · rename_i hc
          obtain ⟨rfl, hc, hj⟩ := hc
          simp only [nx, Option.some.injEq, Sum.inl.injEq] at h; subst h
          obtain ⟨CC, T, N, v1, v2, v3, ⟨ty0, v4⟩, v5⟩ := vw_11 hc
          obtain ⟨hN, hT⟩ := shk_of hsh hs hc v1
          obtain ⟨t1, t2⟩ := (hT j).2 hj
          have hlink := C.2.2.2.2.2.2.1 _ (g_of (fld_w hf) rfl)
          unfold fwd at hlink
          simp only [v2] at hlink
          have hwd := wd_get cI cZ cG ad μ hs
          rw [cE_obj hc] at hwd
          have hjl : j < sl0.length := (List.getElem?_eq_some_iff.mp hj).1
          have hset : (wd sh cI cZ cG ad μ).set q (ad q, .inr (c0, (slVs ad μ q 0 sl0).set j (.long x))) = wd sh cI cZ cG ad (μ.1, x) := by
            refine wd_set hs ?_ (fun i d hd' hi' => cE_long cI cZ cG ad μ x i d (fun z => by obtain ⟨j', hj'⟩ := List.getElem?_of_mem z; exact hi' (lgk_one (okS_lg hsh) hd' hj' hs hj).1))
            rw [cE_obj hc, slVs_setL ad μ q x sl0 j hj (fun a ha => (lgk_one (okS_lg hsh) hs ha hs hj).2)]
          show W p l e R s m args below meth c H locs cells slots Q (F0 m pc ls (.long x :: tr ad fm (.ref q) :: r.map (tr ad fm)))
          rw [tr_lt (Nat.lt_of_lt_of_le (shp_lt hsh hs) (by decide))]
          refine va_put (D := D) (ci := c0) (v := .long x) (ty := .long) (C := CC) (T := T) (N := N) C.1 C.2.1 C.2.2.2.2.2.2.1 v3 ty0 v4 v5 C.2.2.2.2.2.1 E.1 hw.1 hw.2.1 hw.2.2 q hwd v1 j (by rw [← hN]; exact hjl) hlink (fun _ h9 => h9) t1 t2 rfl rfl (by rw [slVs_len]; exact hjl) hd (fun H1 locs1 g1 g2 g3 => ?_)
          rw [hset] at g1 g2
          exact k _ _ _ hl ⟨g1, g2, g3⟩
        · cases h
      · cases h
    · cases h
  · cases h
end SIM2
