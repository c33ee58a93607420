/-! the law, from its entry -/
theorem perm_fm {ws ws' : va_W} (is : List Nat) (h : is.map (fun i => ws[i]?) = ws'.map some) : is.filterMap (fun i => ws[i]?) = ws' := by
  have e : is.filterMap (fun i => ws[i]?) = (is.map (fun i => ws[i]?)).filterMap id := by rw [List.filterMap_map]; rfl
  rw [e, h, List.filterMap_map]
  simp
set_option maxHeartbeats 4000000 in
set_option maxRecDepth 100000 in
theorem whole_start {p : Program} {e : Env} {s : State} {m : MethodId} {below : List Frame} {meth : Method} {c : Code} (l : Launch) {b L : Nat} {xs : Nat → Int32} (hL : L ≤ 2560) (C0 : lw_At p s m meth c b L xs) : W p l e room_1 s m #[Value.ref b] below meth c s.heap [] 0 0 (lw_Z below #[Value.ref b] s) (entryFrame m ([Value.ref b] : List Value).toArray 4) := by
  obtain ⟨hx, hb, hr, hml, hown0, hts0, hX, hbl, hlocks, hgv⟩ := id C0
  have hts : ∀ w ∈ gtb, w.before #[Value.ref b] s = true := fun w hw => hts0 w (gtb_good hw).1
  have hown : s.vm.findClass (cnm 11) = some m.cls := hown0
  obtain ⟨D, cI, cZ, cG, ad0, fm, hE⟩ := ev_start hts0 hgv
  have hK := hE.1
  have hZZ : ZZ s := ⟨hts0 _ tb_ao, va_Nw.of rfl (hts0 _ tb_nw)⟩
  generalize hAe : (fun q : Nat => s.heap.size ≤ q) = A at hE
  have hA : ∀ q : Nat, s.heap.size ≤ q → A q := fun q h => by rw [← hAe]; exact h
  have hbA : ¬ A b := by rw [← hAe]; exact Nat.not_le.mpr hbl
  have hS : va_S A s.heap s.heap [] := va_S.rf
  have hP : va_P D vwCl [] s.heap := fun k q h => by simp at h
  have hD : va_D A [] := ⟨fun i j p q h => by simp at h, fun k q h => by simp at h⟩
  have hl := lv_entry ([.ref b]) (n := 4) (Nat.le_of_ble_eq_true rfl)
  rw [lg_entry_eq]
  generalize (lg_sl ([.ref b]) ++ List.replicate (4 - (lg_sl ([.ref b])).length) Slot.unset).toArray = ls at hl ⊢
  have hl : lv_has ls 4 [(0, .ref b)] := hl
  refine va_new (ci := 9) (fs := [.null, .null, .null, .null, .null, .null, .null, .null, .null]) (C := RX9) (T := TX9) (N := 9) hx hb hts inX9 tyX9 tyX9_ok hown (hts _ lw_cl9) (hts _ in_isMB) (hts _ lw_in9) hK hP hD hS hA rfl (fun j hj => by rcases (show j = 0 ∨ j = 1 ∨ j = 2 ∨ j = 3 ∨ j = 4 ∨ j = 5 ∨ j = 6 ∨ j = 7 ∨ j = 8 by omega) with rfl | rfl | rfl | rfl | rfl | rfl | rfl | rfl | rfl <;> rfl) (Nat.le_of_ble_eq_true rfl) (Nat.le_of_ble_eq_true rfl) dl_0 (fun h0 H hP hD hS => ?_)
  refine W.widen (k := 1) (n := 9) (by decide) (by decide) ?_
  refine lv_dup hx hb dl_3 rfl ?_
  have hF := free_last hD hS hA
  refine va_callv (S := Nat → Nat → Nat) (va_runI (As := []) (rest := [.ref h0]) ⟨hx, hb, hml, hown, hts⟩ (k_80 l D cI cZ cG ad0 fm h0 H.size) (cwI 0 hts good_c80 rfl rfl rfl (hts _ lw_in9) (hts _ lw_ml80) (hts _ in_ii80) rfl (by decide +kernel) ⟨Nat.le_of_ble_eq_true rfl, Nat.le_of_ble_eq_true rfl⟩) ⟨blindZ, fun U hU hW => ⟨rfl, hZZ.warm hW, pre_last hE hP hD hS hA U hU hW⟩⟩ rfl rfl hl.1 rfl (lv_room (Nat.le_of_ble_eq_true rfl)) dl_4 ⟨Nat.le_of_ble_eq_true rfl, Nat.le_of_ble_eq_true rfl⟩) hS (fun q _ h => hF q h) hF (fun u t H1 locs ht hvm hw hB hz1 hk1 hS1 => ?_)
  obtain ⟨b1, b2⟩ := hB
  rw [ht] at b1
  obtain ⟨hP2, hD2⟩ := join_last hP hD hk1 hF b1 b2
  refine W.widen (k := 51) (n := 678) (by decide) (by decide) ?_
  refine lv_astore_n (lv' := [(1, .ref h0), (0, .ref b)]) hx hb dl_7 rfl hl (by decide) rfl (fun ls hl => ?_)
  refine va_new (ci := 10) (fs := [.int 0, .null, .null, .int 0, .null, .int 0, .null, .int 0, .null, .null, .int 0, .null, .int 0, .int 0, .long 0, .int 0, .int 0, .int 0, .int 0, .int 0, .int 0, .int 0, .int 0, .null, .int 0, .int 0, .null, .null, .int 0, .null, .int 0, .null, .int 0, .null, .null, .null, .null]) (C := RX10) (T := TX10) (N := 37) hx hb hts inX10 tyX10 tyX10_ok hown (hts _ lw_cl10) (hts _ in_isMo) (hts _ lw_in10) hK hP2 hD2 hS1 hA rfl (fun j hj => by rcases (show j = 0 ∨ j = 1 ∨ j = 2 ∨ j = 3 ∨ j = 4 ∨ j = 5 ∨ j = 6 ∨ j = 7 ∨ j = 8 ∨ j = 9 ∨ j = 10 ∨ j = 11 ∨ j = 12 ∨ j = 13 ∨ j = 14 ∨ j = 15 ∨ j = 16 ∨ j = 17 ∨ j = 18 ∨ j = 19 ∨ j = 20 ∨ j = 21 ∨ j = 22 ∨ j = 23 ∨ j = 24 ∨ j = 25 ∨ j = 26 ∨ j = 27 ∨ j = 28 ∨ j = 29 ∨ j = 30 ∨ j = 31 ∨ j = 32 ∨ j = 33 ∨ j = 34 ∨ j = 35 ∨ j = 36 by omega) with rfl | rfl | rfl | rfl | rfl | rfl | rfl | rfl | rfl | rfl | rfl | rfl | rfl | rfl | rfl | rfl | rfl | rfl | rfl | rfl | rfl | rfl | rfl | rfl | rfl | rfl | rfl | rfl | rfl | rfl | rfl | rfl | rfl | rfl | rfl | rfl | rfl <;> rfl) (Nat.le_of_ble_eq_true rfl) (Nat.le_of_ble_eq_true rfl) dl_8 (fun h1 H3 hP3 hD3 hS3 => ?_)
  refine W.widen (k := 52) (n := 715) (by decide) (by decide) ?_
  refine lv_dup hx hb dl_11 rfl ?_
  refine cr_after (va_runI (As := []) (rest := [.ref h1]) ⟨hx, hb, hml, hown, hts⟩ (k_116 l D cI cZ cG ad0 fm h1 H3.size) (cwI 0 hts good_c116 rfl rfl rfl (hts _ lw_in10) (hts _ lw_ml116) (hts _ in_ii116) rfl (by decide +kernel) ⟨Nat.le_of_ble_eq_true rfl, Nat.le_of_ble_eq_true rfl⟩) ⟨blindC, fun U hU hW => ⟨rfl, pre_last hE hP3 hD3 hS3 hA U hU hW⟩⟩ rfl rfl hl.1 rfl (lv_room (Nat.le_of_ble_eq_true rfl)) dl_12 ⟨Nat.le_of_ble_eq_true rfl, Nat.le_of_ble_eq_true rfl⟩) hP3 hD3 hS3 hA (fun ad2 H4 locs4 hu hP4 hD4 hS4 => ?_)
  refine W.widen (k := 68) (n := 1303) (by decide) (by decide) ?_
  rw [← hu]
  refine lv_astore_n (lv' := [(2, .ref (ad2 0)), (1, .ref h0), (0, .ref b)]) hx hb dl_15 rfl hl (by decide) rfl (fun ls hl => ?_)
  refine lv_iconst (v := 0) hx hb dl_16 (by decide) ?_
  refine lv_istore_n (lv' := [(3, .int 0), (2, .ref (ad2 0)), (1, .ref h0), (0, .ref b)]) hx hb dl_17 rfl hl (by decide) rfl (fun ls hl => ?_)
  rw [wAll_of] at hP4 hD4
  have hPw := hP4.sub (ws' := wd shp cI cZ cG (adF u h0 ad2 b ad0) mT) [0, 1, 19, 25, 31, 33, 36, 39, 41, 47, 2, 3, 4, 5, 6, 7, 8, 9, 10, 11, 12, 13, 14, 15, 16, 17, 18, 20, 21, 22, 23, 24, 26, 27, 28, 29, 30, 32, 34, 35, 37, 38, 40, 42, 43, 44, 45, 46, 48, 49, 50, 51, 52, 53, 54, 55, 56, 57, 58, 59, 60, 61, 62, 63, 64, 65, 66, 67] (perm_fm _ (wAll_to cI cZ cG u h0 ad2 b ad0))
  have hDw := hD4.sub (ws' := wd shp cI cZ cG (adF u h0 ad2 b ad0) mT) [0, 1, 19, 25, 31, 33, 36, 39, 41, 47, 2, 3, 4, 5, 6, 7, 8, 9, 10, 11, 12, 13, 14, 15, 16, 17, 18, 20, 21, 22, 23, 24, 26, 27, 28, 29, 30, 32, 34, 35, 37, 38, 40, 42, 43, 44, 45, 46, 48, 49, 50, 51, 52, 53, 54, 55, 56, 57, 58, 59, 60, 61, 62, 63, 64, 65, 66, 67] (by decide) (wAll_to cI cZ cG u h0 ad2 b ad0)
  rw [wd_r0 (L : Int) xs] at hPw hDw
  have hw : Wo shp D cI cZ cG (adF u h0 ad2 b ad0) A s H4 locs4 (toM (r0 (L : Int) xs) 0) := ⟨hPw, hDw, hS4⟩
  have E' : Ev D cI cZ cG (adF u h0 ad2 b ad0) fm A s := hE.cg (fun k hk => (adL_k _ _ k hk).trans (if_neg (by omega)))
  have Cc : Cx p s m #[Value.ref b] meth c room_1 197 := ⟨hx, hb, hml, hr, hlocks, hown, hts, Nat.le_of_ble_eq_true rfl, Nat.le_of_ble_eq_true rfl⟩
  have a9 : adF u h0 ad2 b ad0 999 = b := rfl
  have hSC : SC (adF u h0 ad2 b ad0) A s (toM (r0 (L : Int) xs) 0) := by
    refine ⟨L, by omega, ?_, by rw [a9]; exact hbl, by rw [a9]; exact hbA, ?_⟩
    · rw [(SCR_r0 (L := (L : Int)) xs 0).2, a9]
      exact hX
    · rw [(SCR_r0 (L := (L : Int)) xs 0).1]
      show Int32.ofInt (L : Int) = Int32.ofNat L
      first | exact Int32.ofInt_eq_ofNat | exact Int32.ofInt_eq_ofNat L | (apply Int32.toBitVec.inj; simp) | simp
  have hLV : LV (adF u h0 ad2 b ad0) fm 197 ls (lwL 0) := by
    refine ⟨hl.1, hl.2.1, fun i v hi => ?_⟩
    match i, hi with
    | 0, hi => cases hi; exact lv_at hl 3 rfl
    | 1, hi => cases hi; exact lv_at hl 2 rfl
    | 2, hi => cases hi; exact lv_at hl 1 rfl
    | 3, hi => cases hi; exact lv_at hl 0 rfl
    | i + 4, hi => simp at hi
  obtain ⟨n, v, μ', hrun, hv⟩ := law_loop (L := (L : Int)) (X := xs) ⟨by omega, by omega⟩ (L + 1) 0 (r0 (L : Int) xs) 0 (RR_r0 ⟨by omega, by omega⟩ xs) (SCR_r0 xs 0) (by omega) (by omega) (by omega)
  refine sim_all shp_okS n l D cI cZ cG (adF u h0 ad2 b ad0) fm 197 18 (lwL 0) [] (toM (r0 (L : Int) xs) 0) v μ' hrun p e room_1 s m #[Value.ref b] below meth c H4 locs4 68 1303 (lw_Z below #[Value.ref b] s) A ls Cc E' (fun _ => hSC) hA (Nat.le_of_ble_eq_true rfl) (Nat.le_of_ble_eq_true rfl) hLV hw ?_
  intro pc' lv' st' ls' H' locs' hst hw'
  unfold stp at hst
  split at hst
  · rename_i i hi
    obtain ⟨-, h2⟩ := ex_ret hst
    obtain ⟨n9, hd, hn⟩ := ins_dec hi
    have hv1 : v = some (vI 1) := hv
    rcases h2 with ⟨rfl, x, ty, rfl, hvx, hty, hnr⟩ | ⟨rfl, rfl, hvx, hty⟩
    · cases (show n9 = 1 from hn)
      rw [hv1] at hvx
      have ex1 : (x : Int32) = 1 := by
        have := Option.some.inj hvx
        exact (Value.int.inj this).symm
      subst ex1
      refine va_forget (fun q hq => by have := hw'.2.2.2.2 q hq; rw [← hAe] at this; exact this) ?_
      refine W.widen (k := 600000) (n := 7302250) (by decide) (by decide) ?_
      exact lw_ret hx hb hr hlocks hd
    · rw [hv1] at hvx
      cases hvx
  · cases hst
