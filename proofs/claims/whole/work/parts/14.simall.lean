/-! every run -/
theorem vw_nm {ci : Nat} (h : ci < 11) : ∃ T N, vwCl[ci]? = some (cnm ci, T, N) := by
  rcases (show ci = 0 ∨ ci = 1 ∨ ci = 2 ∨ ci = 3 ∨ ci = 4 ∨ ci = 5 ∨ ci = 6 ∨ ci = 7 ∨ ci = 8 ∨ ci = 9 ∨ ci = 10 by omega) with rfl | rfl | rfl | rfl | rfl | rfl | rfl | rfl | rfl | rfl | rfl <;> exact ⟨_, _, rfl⟩
theorem okc_of {y z : Nat} {as rest : List Value} (h : okc y z as rest = true) : mf z + 1 ≤ mf y ∧ 8 + (mL z + 11) + mlo z ≤ mlo y ∧ (rest.map fun v => v.category).sum ≤ 8 ∧ (as.map fun v => v.category).sum ≤ mL z := by
  unfold okc at h
  simpa only [Bool.and_eq_true, decide_eq_true_eq] using h
theorem map_cat {ad : Nat → Nat} {fm : Value} (hf : fm.category = 1) (l : List Value) : ((l.map (tr ad fm)).map fun v => v.category) = l.map fun v => v.category := by
  rw [List.map_map]
  exact List.map_congr_left (fun v _ => tr_cat hf v)
theorem good_wz {z : Nat} (hz : z ∈ czs) : GoodIn gtb (wz z) := by
  intro w hw
  have h : w ∈ gtb := by
    rcases List.mem_cons.mp hw with rfl | h
    · exact g_of (cw_all z hz) rfl
    · exact h
  exact ⟨h, good_of_word (gtb_good h).2⟩
theorem good_of_g {w : Cond} (h : w ∈ gtb) : w ∈ gtb ∧ ((w.onTables && w.keeps) = true ∨ ∃ ty, w = .arrayClass ty) := ⟨h, good_of_word (gtb_good h).2⟩
section SIM5
variable {sh : List (Nat × Nat × List Nat)}
variable {p : Program} {l : Launch} {e : Env} {R : Room} {s : State} {m : MethodId} {args : Array Value} {below : List Frame} {meth : Method} {c : Code} {H : Heap} {locs : List Loc} {cells slots : Nat} {Q : State → Prop}
variable {D : va_G} {cI cZ cG : ClassId} {ad : Nat → Nat} {fm : Value} {A : Nat → Prop} {y pc : Nat} {lv : List (Option Value)} {st : List Value} {μ : mm} {ls : Array Slot} {t : mS}
theorem fr_of (hw : Wo sh D cI cZ cG ad A s H locs μ) (hA : ∀ q, s.heap.size ≤ q → A q) : ∀ q, va_A (wd sh cI cZ cG ad μ) H.size q → A q := by
  intro q h
  rcases h with ⟨k, e, h⟩ | h
  · exact hw.2.1.2 k _ h
  · exact hA q (Nat.le_trans hw.2.2.1 h)
/-- what a callee finds -/
theorem pre_of (E : Ev D cI cZ cG ad fm A s) (hw : Wo sh D cI cZ cG ad A s H locs μ) (hA : ∀ q, s.heap.size ≤ q → A q) (U : State) (hU : U.heap = H) (hW : s.WarmedH U.vm) : PreM sh D cI cZ cG ad fm μ H.size U := by
  have hF := fr_of hw hA
  refine ⟨by rw [hU], by rw [hU]; exact hw.1, hw.2.1.weaken (fun _ _ _ _ => trivial), E.1.moved hW.alike, E.2.1, ?_, ?_, ?_, fun q hq => (E.2.2.2.2.2 q hq).warm hW⟩
  · rw [hU]; exact ((E.2.2.1.kept hw.2.2.2.1).narrow hF).moved hW.alike
  · rw [hU]; exact ((E.2.2.2.1.kept hw.2.2.2.1).narrow hF).moved hW.alike
  · rw [hU]; exact ((E.2.2.2.2.1.kept hw.2.2.2.1).narrow hF).moved hW.alike
theorem blind (as : List Value) (sz : Nat) : FrameBlind (va_Pc (as.map (tr ad fm)) (PreM sh D cI cZ cG ad fm μ sz)) := by
  intro a U g mk q
  obtain ⟨q1, q2, q3, q4, q5⟩ := q
  exact ⟨q1, q2, q3, q4, q5.moved (u := U) (U := U.calling g mk a) rfl rfl⟩
/-- behind a call -/
theorem call_sim {n : Nat} (ih : SimAt sh n) {z : Nat} {as : List Value} {w : Option Value} {μ2 : mm} {rest : List Value} {st0 : List Value} (hw : Wo sh D cI cZ cG ad A s H locs μ) (hA : ∀ q, s.heap.size ≤ q → A q) (hret : w = none ∨ ∃ x, w = some (.int x)) {a0 : Array Value}
    (hrun : va_Run p l e R s m args below meth c H locs cells slots 0 0 (F0 m pc ls st0) (rest.map (tr ad fm)) (QcM sh D cI cZ cG ad μ μ2 H.size w a0) (va_A (wd sh cI cZ cG ad μ) H.size))
    (kk : ∀ (H1 : Heap) (locs1 : List Loc), Wo sh D cI cZ cG ad A s H1 locs1 μ2 → W p l e R s m args below meth c H1 locs1 cells slots Q (F0 m (pc + 3) ls ((w.toList ++ rest).map (tr ad fm)))) : W p l e R s m args below meth c H locs cells slots Q (F0 m pc ls st0) := by
  have hF := fr_of hw hA
  rcases hret with rfl | ⟨x, rfl⟩
  · refine va_callv (S := Unit) (a := a0) hrun hw.2.2 (fun q _ h => hF q h) hF (fun u t H1 locs1 ht hvm hp hB hz1 hk1 hS => ?_)
    obtain ⟨b1, b2⟩ := hB
    rw [ht] at b1
    exact kk H1 locs1 ⟨b1, b2.weaken (fun _ q _ h => hF q.1 h), hS⟩
  · refine va_calli (S := Unit) (a := a0) hrun hw.2.2 (fun q _ h => hF q h) hF (fun r u t H1 locs1 ht hvm hp hB hz1 hk1 hS => ?_)
    obtain ⟨b1, b2⟩ := hB
    rw [ht] at b1
    subst hp
    exact kk H1 locs1 ⟨b1, b2.weaken (fun _ q _ h => hF q.1 h), hS⟩
theorem sim_all (hsh : okS sh = true) : ∀ n, SimAt sh n := by
  intro n
  induction n with
  | zero =>
    intro l D cI cZ cG ad fm y pc lv st μ v μ' h
    cases h
  | succ n ih =>
    intro l D cI cZ cG ad fm y pc lv st μ v μ' h p e R s m args below meth c H locs cells slots Q A ls C E hX hA hc hs hl hw hf
    unfold run at h
    split at h
    · cases h
    · rename_i a b c1 d hst
      refine step_sim hsh C E hX hst hl hw (fun ls' H' locs' hl' hw' => ?_)
      refine ih l D cI cZ cG ad fm y a b c1 d v μ' h p e R s m args below meth c H' locs' cells slots Q A ls' C E (fun h9 => ?_) hA hc hs hl' hw' hf
      have hk := stp_keep hst
      obtain ⟨L, x1, x2, x3, x4, x5⟩ := hX h9
      have k1 : d.1 999 = μ.1 999 := hk 999 (Nat.le_trans (okS_len hsh) (by decide))
      have k2 : d.1 998 = μ.1 998 := hk 998 (okS_len hsh)
      exact ⟨L, x1, by rw [k1]; exact x2, x3, x4, by rw [k2]; exact x5⟩
    · rename_i z as a b c1 d hst
      split at h
      · cases h
      · rename_i w μ2 hr
        unfold stp at hst
        split at hst
        · rename_i i hi
          obtain ⟨n9, hd, hn⟩ := ins_dec hi
          have hret := run_ret _ _ _ _ _ _ _ _ hr
          have hgo : ∀ (H1 : Heap) (locs1 : List Loc), a = pc + 3 → b = lv → d = μ → Wo sh D cI cZ cG ad A s H1 locs1 μ2 → W p l e R s m args below meth c H1 locs1 cells slots Q (F0 m (pc + 3) ls ((w.toList ++ c1).map (tr ad fm))) := by
            intro H1 locs1 ha hb hdm hw1
            subst ha hb hdm
            refine ih l D cI cZ cG ad fm y _ _ _ μ2 v μ' h p e R s m args below meth c H1 locs1 cells slots Q A ls C E (fun h9 => ?_) hA hc hs hl hw1 hf
            have hk := run_keep _ _ _ _ _ _ _ _ hr
            obtain ⟨L, x1, x2, x3, x4, x5⟩ := hX h9
            have k1 : μ2.1 999 = d.1 999 := hk 999 (Nat.le_trans (okS_len hsh) (by decide))
            have k2 : μ2.1 998 = d.1 998 := hk 998 (okS_len hsh)
            exact ⟨L, x1, by rw [k1]; exact x2, x3, x4, by rw [k2]; exact x5⟩
          rcases ex_call hst with ⟨idx, bb, rfl, hlk, rfl, hdr, hokr, hokc, ha, hb, hdm⟩ | ⟨idx, rfl, hlk, rfl, rfl, hna, hokc, ha, hb, hdm⟩
          · cases (show n9 = 3 from hn)
            subst hdm
            obtain ⟨o1, o2, o3, o4⟩ := okc_of hokc
            have hzv := lnk_v hlk
            have hz := v_c hzv
            have hb1200 : (bb : Nat) < 1200 := by
              unfold okr at hokr
              split at hokr
              · rename_i h9; exact Nat.lt_of_lt_of_le h9 (by decide)
              · rw [Bool.and_eq_true] at hokr
                exact Nat.lt_of_lt_of_le (of_decide_eq_true hokr.1) (by decide)
            have htr : tr ad fm (.ref bb) = .ref (ad bb) := tr_lt hb1200
            have hM := met_of (l := l) (D := D) (cI := cI) (cZ := cZ) (cG := cG) (ad := ad) (fm := fm) ih hz hr o4 H.size
            have hstk : st = st.take (na z) ++ .ref bb :: c1 := by rw [← hdr]; exact (List.take_append_drop _ _).symm
            have hcell : ∃ cellB : Cell, H[ad bb]? = some cellB ∧ cellB.vm.isStatics = false ∧ s.vm.findClass (cnm (mo z)) = some cellB.cls := by
              unfold okr at hokr
              split at hokr
              · rw [Bool.and_eq_true] at hokr
                have h11 : mo z < 11 := of_decide_eq_true hokr.1
                have h12 := hokr.2
                rw [beq_iff_eq] at h12
                obtain ⟨cc, hcc, h13⟩ := Option.map_eq_some_iff.mp h12
                obtain ⟨c0, n0, s0⟩ := cc
                obtain rfl : c0 = mo z := h13
                have hwd := wd_get cI cZ cG ad d hcc
                rw [cE_obj h11] at hwd
                obtain ⟨T, N, hvw⟩ := vw_nm h11
                exact va_recv E.1 hw.1 hvw hwd
              · rename_i h9
                rw [Bool.and_eq_true] at hokr
                obtain ⟨k9, hk9⟩ : ∃ k9 : Nat, bb = 1000 + k9 := ⟨bb - 1000, (Nat.add_sub_cancel' (Nat.not_lt.mp h9)).symm⟩
                have h10 : (bb : Nat) < 1007 := of_decide_eq_true hokr.1
                have hk7 : k9 < 7 := Nat.lt_of_add_lt_add_left (show 1000 + k9 < 1000 + 7 by rw [← hk9]; exact h10)
                have h20 : mo z = 20 := of_decide_eq_true hokr.2
                rw [h20, hk9]
                exact vk_recv (adK := fun i => ad (1000 + i)) (i := k9) E.2.2.2.2.1 hk7 hw.2.2
            have hrun := va_runV (R := R) (p := p) (e := e) (below := below) (meth := meth) (locs := locs) (cells := cells) (slots := slots) (b := ad bb) (As := (st.take (na z)).reverse.map (tr ad fm)) (rest := c1.map (tr ad fm)) (g := F0 m pc ls (st.map (tr ad fm))) (C := cnm (mo z)) ⟨C.1, C.2.1, C.2.2.1, C.2.2.2.2.2.1, C.2.2.2.2.2.2.1⟩ hM
              (cwV (na z) C.2.2.2.2.2.2.1 (fun w hw9 => by
                unfold wsV at hw9
                rcases List.mem_append.mp hw9 with h | h
                · simp only [List.mem_cons, List.not_mem_nil, or_false] at h
                  rcases h with rfl | rfl | rfl | rfl
                  · exact good_of_g (g_of (lnk_w hlk) rfl)
                  · exact good_of_g (g_of (v_i hzv) rfl)
                  · exact good_of_g (g_of (v_s hzv) rfl)
                  · exact good_of_g (g_of (c_ini hz) rfl)
                · exact good_wz hz w h) rfl rfl rfl ⟨c_cls hz, (c_mh hz).1, (c_mh hz).2, c_na hz⟩ ⟨Nat.le_trans o1 C.2.2.2.2.2.2.2.1, Nat.le_trans o2 C.2.2.2.2.2.2.2.2⟩)
              ⟨blind _ _, hcell, fun U hU hW => ⟨by rw [List.map_cons, htr], pre_of E hw hA U hU hW⟩⟩ rfl (by
                rw [List.length_map, List.length_reverse, List.length_take, Nat.min_eq_left]
                have h8 : (st.drop (na z)).length = c1.length + 1 := by rw [hdr]; rfl
                rw [List.length_drop] at h8
                omega) (hl.1) (by
                show st.map (tr ad fm) = ((st.take (na z)).reverse.map (tr ad fm)).reverse ++ .ref (ad bb) :: c1.map (tr ad fm)
                rw [← List.map_reverse, List.reverse_reverse, ← htr]
                conv => lhs; rw [hstk]
                rw [List.map_append, List.map_cons]) (lv_room (by rw [map_cat E.2.1]; exact o3)) hd ⟨hc, hs⟩
            exact call_sim ih (z := z) (as := .ref bb :: (st.take (na z)).reverse) (rest := c1) hw hA hret hrun (fun H1 locs1 hw1 => hgo H1 locs1 ha hb rfl hw1)
          · cases (show n9 = 3 from hn)
            subst hdm
            obtain ⟨o1, o2, o3, o4⟩ := okc_of hokc
            have hzs := lnk_s hlk
            have hz := s_c hzs
            have hM := met_of (l := l) (D := D) (cI := cI) (cZ := cZ) (cG := cG) (ad := ad) (fm := fm) ih hz hr o4 H.size
            have hrun := va_runS (R := R) (p := p) (e := e) (below := below) (meth := meth) (locs := locs) (cells := cells) (slots := slots) (As := (st.take (na z)).reverse.map (tr ad fm)) (rest := (st.drop (na z)).map (tr ad fm)) (g := F0 m pc ls (st.map (tr ad fm))) ⟨C.1, C.2.1, C.2.2.1, C.2.2.2.2.2.1, C.2.2.2.2.2.2.1⟩ hM
              (va_cwS (na z) C.2.2.2.2.2.2.1 (fun w hw9 => by
                unfold va_wsS at hw9
                rcases List.mem_append.mp hw9 with h | h
                · simp only [List.mem_cons, List.not_mem_nil, or_false] at h
                  rcases h with rfl | rfl | rfl
                  · exact good_of_g (g_of (lnk_w hlk) rfl)
                  · exact good_of_g (g_of (s_s hzs) rfl)
                  · rw [c_cls hz]; exact good_of_g (g_of (c_ini hz) rfl)
                · exact good_wz hz w h) rfl rfl rfl ⟨(c_mh hz).1, (c_mh hz).2, c_na hz⟩ ⟨Nat.le_trans o1 C.2.2.2.2.2.2.2.1, Nat.le_trans o2 C.2.2.2.2.2.2.2.2⟩)
              ⟨blind _ _, fun U hU hW => ⟨rfl, pre_of E hw hA U hU hW⟩⟩ rfl (by
                rw [List.length_map, List.length_reverse, List.length_take, Nat.min_eq_left hna]) (hl.1) (by
                show st.map (tr ad fm) = ((st.take (na z)).reverse.map (tr ad fm)).reverse ++ (st.drop (na z)).map (tr ad fm)
                rw [← List.map_reverse, List.reverse_reverse, ← List.map_append, List.take_append_drop]) (lv_room (by rw [map_cat E.2.1]; exact o3)) hd ⟨hc, hs⟩
            exact call_sim ih (z := z) (as := (st.take (na z)).reverse) (rest := st.drop (na z)) hw hA hret hrun (fun H1 locs1 hw1 => hgo H1 locs1 ha hb rfl hw1)
        · cases hst
    · rename_i r hst
      cases h
      have hμ : μ' = μ := by
        unfold stp at hst
        split at hst
        · exact (ex_ret hst).1
        · cases hst
      subst hμ
      exact hf pc lv st ls H locs hst hw
end SIM5
