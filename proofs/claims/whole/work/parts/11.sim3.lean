/-! arrays -/
theorem cE_i {cI cZ cG : ClassId} {ad : Nat → Nat} {μ : mm} {k n : Nat} {sl0 : List Nat} : cE cI cZ cG ad μ k (100, n, sl0) = .inl (cI, n, .inl (μ.1 k)) := by simp [cE]
theorem cE_z {cI cZ cG : ClassId} {ad : Nat → Nat} {μ : mm} {k n : Nat} {sl0 : List Nat} : cE cI cZ cG ad μ k (101, n, sl0) = .inl (cZ, n, .inl (μ.1 k)) := by simp [cE]
theorem cE_g {cI cZ cG : ClassId} {ad : Nat → Nat} {μ : mm} {k n : Nat} {sl0 : List Nat} : cE cI cZ cG ad μ k (102, n, sl0) = .inl (cG, n, .inr (.inr (.inr (.inr (fun j => (sl0[j]?).map ad))))) := by simp [cE]
theorem mup_row (μ : mm) (k j : Nat) (x : Int32) : (mup μ k j x).1 k = upd (μ.1 k) j x := by simp [mup]
section SIM3
variable {sh : List (Nat × Nat × List Nat)}
variable {p : Program} {l : Launch} {e : Env} {R : Room} {s : State} {m : MethodId} {args : Array Value} {below : List Frame} {meth : Method} {c : Code} {H : Heap} {locs : List Loc} {cells slots : Nat} {Q : State → Prop}
variable {D : va_G} {cI cZ cG : ClassId} {ad : Nat → Nat} {fm : Value} {A : Nat → Prop} {y pc : Nat} {lv : List (Option Value)} {st : List Value} {μ : mm} {ls : Array Slot} {t : mS}
theorem sm_iaload (hsh : okS sh = true) (C : Cx p s m args meth c R y) (E : Ev D cI cZ cG ad fm A s) (hX : mo y = 11 → SC ad A s μ) (hi : ins y pc = some .iaload) (h : ex sh y pc lv st μ .iaload = some (.inl t)) (hl : LV ad fm y ls lv) (hw : Wo sh D cI cZ cG ad A s H locs μ) (k : Kn sh p l e R s m args below meth c cells slots Q D cI cZ cG ad fm A y t) : W p l e R s m args below meth c H locs cells slots Q (F0 m pc ls (st.map (tr ad fm))) := by
  obtain ⟨n9, hd, hn⟩ := ins_dec hi
  cases (show n9 = 1 from hn)
  simp only [ex] at h
  split at h
  · rename_i i q r
    split at h
    · rename_i hq
      subst hq
      split at h
      · rename_i hm
        split at h
        · cases h
        · rename_i hin
          simp only [nx, Option.some.injEq, Sum.inl.injEq] at h; subst h
          obtain ⟨L, hL, x1, x2, x3, x4⟩ := hX hm
          show W p l e R s m args below meth c H locs cells slots Q (F0 m pc ls (.int i :: tr ad fm (.ref 999) :: r.map (tr ad fm)))
          rw [tr_lt (by decide)]
          refine va_sld C.1 C.2.1 x1 x2 x3 hw.2.2 (i := i) ?_ hd (k _ _ _ hl hw)
          rw [x4] at hin
          have hL2 : (Int32.ofNat L).toNatClampNeg = L := nI_clamp hL
          rw [hL2] at hin
          exact hin
      · cases h
    · split at h
      · rename_i tg n sl0 hs
        split at h
        · rename_i htg
          subst htg
          split at h
          · cases h
          · rename_i hin
            simp only [nx, Option.some.injEq, Sum.inl.injEq] at h; subst h
            have hwd := wd_get cI cZ cG ad μ hs
            rw [cE_i] at hwd
            show W p l e R s m args below meth c H locs cells slots Q (F0 m pc ls (.int i :: tr ad fm (.ref q) :: r.map (tr ad fm)))
            rw [tr_lt (Nat.lt_of_lt_of_le (shp_lt hsh hs) (by decide))]
            exact va_iald C.1 C.2.1 E.1 hw.1 q 0 hwd rfl hin hd (k _ _ _ hl hw)
        · cases h
      · cases h
  · cases h
theorem sm_baload (hsh : okS sh = true) (C : Cx p s m args meth c R y) (E : Ev D cI cZ cG ad fm A s) (hX : mo y = 11 → SC ad A s μ) (hi : ins y pc = some .baload) (h : ex sh y pc lv st μ .baload = some (.inl t)) (hl : LV ad fm y ls lv) (hw : Wo sh D cI cZ cG ad A s H locs μ) (k : Kn sh p l e R s m args below meth c cells slots Q D cI cZ cG ad fm A y t) : W p l e R s m args below meth c H locs cells slots Q (F0 m pc ls (st.map (tr ad fm))) := by
  obtain ⟨n9, hd, hn⟩ := ins_dec hi
  cases (show n9 = 1 from hn)
  simp only [ex] at h
  split at h
  · rename_i i q r
    split at h
    · split at h
      · rename_i tg n sl0 hs
        split at h
        · rename_i htg
          subst htg
          split at h
          · cases h
          · rename_i hin
            simp only [nx, Option.some.injEq, Sum.inl.injEq] at h; subst h
            have hwd := wd_get cI cZ cG ad μ hs
            rw [cE_z] at hwd
            show W p l e R s m args below meth c H locs cells slots Q (F0 m pc ls (.int i :: tr ad fm (.ref q) :: r.map (tr ad fm)))
            rw [tr_lt (Nat.lt_of_lt_of_le (shp_lt hsh hs) (by decide))]
            exact va_zald C.1 C.2.1 E.1 hw.1 q 1 hwd rfl hin hd (k _ _ _ hl hw)
        · cases h
      · cases h
    · split at h
      · rename_i hq
        split at h
        · cases h
        · rename_i hin
          simp only [nx, Option.some.injEq, Sum.inl.injEq] at h; subst h
          obtain ⟨k9, rfl⟩ : ∃ k9 : Nat, q = 1100 + k9 := ⟨q - 1100, (Nat.add_sub_cancel' hq.1).symm⟩
          have hk9 : k9 < 7 := Nat.lt_of_add_lt_add_left (show 1100 + k9 < 1100 + 7 from hq.2)
          have e9 : 1100 + k9 - 1100 = k9 := by omega
          have hin2 : ¬ (i < 0 ∨ jsl.getD k9 0 ≤ i.toNatClampNeg) := by rw [← e9]; exact hin
          have hgo := k _ _ _ hl hw
          obtain ⟨-, -, -, e4⟩ := E.2.2.2.2.1.1 k9 hk9
          show W p l e R s m args below meth c H locs cells slots Q (F0 m pc ls (.int i :: tr ad fm (.ref (1100 + k9)) :: r.map (tr ad fm)))
          rw [tr_lt (show 1100 + k9 < 1200 by omega)]
          refine va_tb C.1 C.2.1 e4 hw.2.2 hin2 rfl hd ?_
          have e10 : (jsb.getD (1100 + k9 - 1100) []).getD i.toNatClampNeg 0 = (jsb.getD k9 []).getD i.toNatClampNeg 0 := by rw [e9]
          have hgo2 : W p l e R s m args below meth c H locs cells slots Q (F0 m (pc + 1) ls (.int ((jsb.getD (1100 + k9 - 1100) []).getD i.toNatClampNeg 0) :: r.map (tr ad fm))) := hgo
          rw [e10] at hgo2
          exact hgo2
      · cases h
  · cases h
theorem sm_iastore (hsh : okS sh = true) (C : Cx p s m args meth c R y) (E : Ev D cI cZ cG ad fm A s) (hX : mo y = 11 → SC ad A s μ) (hi : ins y pc = some .iastore) (h : ex sh y pc lv st μ .iastore = some (.inl t)) (hl : LV ad fm y ls lv) (hw : Wo sh D cI cZ cG ad A s H locs μ) (k : Kn sh p l e R s m args below meth c cells slots Q D cI cZ cG ad fm A y t) : W p l e R s m args below meth c H locs cells slots Q (F0 m pc ls (st.map (tr ad fm))) := by
  obtain ⟨n9, hd, hn⟩ := ins_dec hi
  cases (show n9 = 1 from hn)
  simp only [ex] at h
  split at h
  · rename_i x i q r
    split at h
    · rename_i tg n sl0 hs
      split at h
      · rename_i htg
        subst htg
        split at h
        · cases h
        · rename_i hin
          simp only [nx, Option.some.injEq, Sum.inl.injEq] at h; subst h
          have hwd := wd_get cI cZ cG ad μ hs
          rw [cE_i] at hwd
          have hset : (wd sh cI cZ cG ad μ).set q (ad q, .inl (cI, n, .inl (upd (μ.1 q) i.toNatClampNeg x))) = wd sh cI cZ cG ad (mup μ q i.toNatClampNeg x) := by
            refine wd_set hs ?_ (fun i' d hd' hi' => cE_mup cI cZ cG ad μ _ x hi' d)
            rw [cE_i, mup_row]
          show W p l e R s m args below meth c H locs cells slots Q (F0 m pc ls (.int x :: .int i :: tr ad fm (.ref q) :: r.map (tr ad fm)))
          rw [tr_lt (Nat.lt_of_lt_of_le (shp_lt hsh hs) (by decide))]
          refine va_iast C.1 C.2.1 E.1 hw.1 hw.2.1 hw.2.2 q 0 hwd rfl hin hd (fun H1 locs1 g1 g2 g3 => ?_)
          rw [hset] at g1 g2
          exact k _ _ _ hl ⟨g1, g2, g3⟩
      · cases h
    · cases h
  · cases h
theorem sm_bastore (hsh : okS sh = true) (C : Cx p s m args meth c R y) (E : Ev D cI cZ cG ad fm A s) (hX : mo y = 11 → SC ad A s μ) (hi : ins y pc = some .bastore) (h : ex sh y pc lv st μ .bastore = some (.inl t)) (hl : LV ad fm y ls lv) (hw : Wo sh D cI cZ cG ad A s H locs μ) (k : Kn sh p l e R s m args below meth c cells slots Q D cI cZ cG ad fm A y t) : W p l e R s m args below meth c H locs cells slots Q (F0 m pc ls (st.map (tr ad fm))) := by
  obtain ⟨n9, hd, hn⟩ := ins_dec hi
  cases (show n9 = 1 from hn)
  simp only [ex] at h
  split at h
  · rename_i x i q r
    split at h
    · rename_i tg n sl0 hs
      split at h
      · rename_i htg
        subst htg
        split at h
        · cases h
        · rename_i hin
          simp only [nx, Option.some.injEq, Sum.inl.injEq] at h; subst h
          have hwd := wd_get cI cZ cG ad μ hs
          rw [cE_z] at hwd
          have hset : (wd sh cI cZ cG ad μ).set q (ad q, .inl (cZ, n, .inl (upd (μ.1 q) i.toNatClampNeg (vp_nar .boolean x)))) = wd sh cI cZ cG ad (mup μ q i.toNatClampNeg (vp_nar .boolean x)) := by
            refine wd_set hs ?_ (fun i' d hd' hi' => cE_mup cI cZ cG ad μ _ _ hi' d)
            rw [cE_z, mup_row]
          show W p l e R s m args below meth c H locs cells slots Q (F0 m pc ls (.int x :: .int i :: tr ad fm (.ref q) :: r.map (tr ad fm)))
          rw [tr_lt (Nat.lt_of_lt_of_le (shp_lt hsh hs) (by decide))]
          refine va_zast C.1 C.2.1 E.1 hw.1 hw.2.1 hw.2.2 q 1 hwd rfl hin hd (fun H1 locs1 g1 g2 g3 => ?_)
          rw [hset] at g1 g2
          exact k _ _ _ hl ⟨g1, g2, g3⟩
      · cases h
    · cases h
  · cases h
theorem sm_aaload (hsh : okS sh = true) (C : Cx p s m args meth c R y) (E : Ev D cI cZ cG ad fm A s) (hX : mo y = 11 → SC ad A s μ) (hi : ins y pc = some .aaload) (h : ex sh y pc lv st μ .aaload = some (.inl t)) (hl : LV ad fm y ls lv) (hw : Wo sh D cI cZ cG ad A s H locs μ) (k : Kn sh p l e R s m args below meth c cells slots Q D cI cZ cG ad fm A y t) : W p l e R s m args below meth c H locs cells slots Q (F0 m pc ls (st.map (tr ad fm))) := by
  obtain ⟨n9, hd, hn⟩ := ins_dec hi
  cases (show n9 = 1 from hn)
  simp only [ex] at h
  split at h
  · rename_i i q r
    split at h
    · rename_i tg n sl0 hs
      split at h
      · rename_i htg
        subst htg
        split at h
        · cases h
        · rename_i hin
          split at h
          · rename_i w hwq
            simp only [nx, Option.some.injEq, Sum.inl.injEq] at h; subst h
            have hwd := wd_get cI cZ cG ad μ hs
            rw [cE_g] at hwd
            have h3 := all_at (okS_small hsh) (List.mem_of_getElem? hs)
            have h4 := all_at h3 (List.mem_of_getElem? hwq)
            simp only [decide_eq_true_eq] at h4
            have hgo := k _ _ _ hl hw
            have h7 : tr ad fm (.ref w) = .ref (ad w) := tr_lt (show w < 1200 by omega)
            simp only [List.map_cons, h7] at hgo
            show W p l e R s m args below meth c H locs cells slots Q (F0 m pc ls (.int i :: tr ad fm (.ref q) :: r.map (tr ad fm)))
            rw [tr_lt (Nat.lt_of_lt_of_le (shp_lt hsh hs) (by decide))]
            have hlt : i.toNatClampNeg < n := Nat.not_le.mp fun z => hin (Or.inr z)
            refine W.aald (v := .ref (ad w)) (ty := .array .int) C.1 C.2.1 (hw.1 q _ hwd) ((E.1.2 2 _ rfl).1 n (fun j => va_rf ((sl0[j]?).map ad))) rfl (fun z => by cases z) (by show ¬ (i < 0 ∨ (arrV _ _ _).slots.size ≤ _); rw [arrV_size]; exact hin) ?_ rfl rfl hd hgo
            show (arrV _ _ _).slots[_]? = _
            rw [arrV_read _ _ hlt]
            show some (va_rf (Option.map ad sl0[i.toNatClampNeg]?)) = _
            rw [hwq]
            rfl
          · cases h
      · cases h
    · cases h
  · cases h
theorem sm_arraylength (hsh : okS sh = true) (C : Cx p s m args meth c R y) (E : Ev D cI cZ cG ad fm A s) (hX : mo y = 11 → SC ad A s μ) (hi : ins y pc = some .arraylength) (h : ex sh y pc lv st μ .arraylength = some (.inl t)) (hl : LV ad fm y ls lv) (hw : Wo sh D cI cZ cG ad A s H locs μ) (k : Kn sh p l e R s m args below meth c cells slots Q D cI cZ cG ad fm A y t) : W p l e R s m args below meth c H locs cells slots Q (F0 m pc ls (st.map (tr ad fm))) := by
  obtain ⟨n9, hd, hn⟩ := ins_dec hi
  cases (show n9 = 1 from hn)
  simp only [ex] at h
  split at h
  · rename_i q r
    split at h
    · rename_i hq
      subst hq
      split at h
      · rename_i hm
        simp only [nx, Option.some.injEq, Sum.inl.injEq] at h; subst h
        obtain ⟨L, hL, x1, x2, x3, x4⟩ := hX hm
        have hgo := k _ _ _ hl hw
        simp only [List.map_cons, x4] at hgo
        show W p l e R s m args below meth c H locs cells slots Q (F0 m pc ls (tr ad fm (.ref 999) :: r.map (tr ad fm)))
        rw [tr_lt (by decide)]
        exact va_slen C.1 C.2.1 x1 x2 x3 hw.2.2 hd hgo
      · cases h
    · split at h
      · rename_i hq
        simp only [nx, Option.some.injEq, Sum.inl.injEq] at h; subst h
        obtain ⟨k9, rfl⟩ : ∃ k9 : Nat, q = 1100 + k9 := ⟨q - 1100, (Nat.add_sub_cancel' hq.1).symm⟩
        have hk9 : k9 < 7 := Nat.lt_of_add_lt_add_left (show 1100 + k9 < 1100 + 7 from hq.2)
        have e9 : 1100 + k9 - 1100 = k9 := by omega
        have hgo := k _ _ _ hl hw
        obtain ⟨-, -, -, e4⟩ := E.2.2.2.2.1.1 k9 hk9
        show W p l e R s m args below meth c H locs cells slots Q (F0 m pc ls (tr ad fm (.ref (1100 + k9)) :: r.map (tr ad fm)))
        rw [tr_lt (show 1100 + k9 < 1200 by omega)]
        have hgo2 : W p l e R s m args below meth c H locs cells slots Q (F0 m (pc + 1) ls (.int (Int32.ofNat (jsl.getD (1100 + k9 - 1100) 0)) :: r.map (tr ad fm))) := hgo
        rw [e9] at hgo2
        exact va_tlen C.1 C.2.1 e4 hw.2.2 rfl hd hgo2
      · cases h
  · cases h
end SIM3
