/-! the law's loop (wip/gen/gen_law96.py) -/
theorem and31 (a : Int) : 0 ≤ ban a 31 ∧ ban a 31 < 32 := by
  have := bt_rg (ban_sb a 31) (n := 5) (by decide) (fun k h1 h2 => by rw [bt_and, bt_up (a := 31) (n := 5) (by decide) (by decide) k h1, Bool.and_false])
  exact this
set_option maxRecDepth 10000 in
theorem law_loop {L : Int} {X : Nat → Int32} (hL : 0 ≤ L ∧ L ≤ 2560) : ∀ (d : Nat) (i : Int) (ρ : rm) (τ : Int64), RR ρ → SCR L X (toM ρ τ) → 0 ≤ i → L - i < d → i ≤ 2565 → G 197 18 (lwL i) [] (toM ρ τ) QL
  | 0, i, ρ, τ, hR, hs, h0, hd, h9 => by
    refine Eq.mpr (g_iload_n d197_18 rfl) ?_
    refine Eq.mpr (g_aload_n d197_19 rfl rfl) ?_
    refine Eq.mpr (g_scrL d197_20 rfl) ?_
    rw [hs.1]
    refine Eq.mpr (j_iconst d197_21) ?_
    refine Eq.mpr (j_isub d197_22) ?_
    refine Eq.mpr (j_icmp_gt (tgt := 1048) d197_23 (by decide) ⟨by omega, by omega⟩ ⟨by omega, by omega⟩ (fun _ => rfl) (fun _ => rfl)) ?_
    rw [if_pos (by omega)]
    refine Eq.mpr (j_iconst d197_1048) ?_
    refine Eq.mpr (g_iret d197_1049 rfl rfl) ?_
    rfl
  | d + 1, i, ρ, τ, hR, hs, h0, hd, h9 => by
    refine Eq.mpr (g_iload_n d197_18 rfl) ?_
    refine Eq.mpr (g_aload_n d197_19 rfl rfl) ?_
    refine Eq.mpr (g_scrL d197_20 rfl) ?_
    rw [hs.1]
    refine Eq.mpr (j_iconst d197_21) ?_
    refine Eq.mpr (j_isub d197_22) ?_
    refine Eq.mpr (j_icmp_gt (tgt := 1048) d197_23 (by decide) ⟨by omega, by omega⟩ ⟨by omega, by omega⟩ (fun _ => rfl) (fun _ => rfl)) ?_
    by_cases c : L - 5 < i
    · rw [if_pos c]
      refine Eq.mpr (j_iconst d197_1048) ?_
      refine Eq.mpr (g_iret d197_1049 rfl rfl) ?_
      rfl
    · rw [if_neg c]
      have hi : 0 ≤ i ∧ i + 5 ≤ L := by omega
      have IH : ∀ ρ2 τ2, RR ρ2 → SCR L X (toM ρ2 τ2) → G 197 1042 (lwL i) [] (toM ρ2 τ2) QL := fun ρ2 τ2 hR2 hs2 => by
        refine Eq.mpr (j_iinc (lv' := lwL (i + 5)) d197_1042 rfl (by decide) rfl rfl) ?_
        refine Eq.mpr (g_goto (tgt := 18) d197_1045 (by decide)) ?_
        exact law_loop hL d (i + 5) ρ2 τ2 hR2 hs2 (by omega) (by omega) (by omega)
      refine Eq.mpr (g_aload_n d197_26 rfl rfl) ?_
      refine Eq.mpr (g_iload_n d197_27 rfl) ?_
      refine Eq.mpr (lw_scr d197_28 hs hL.2 (by omega)) ?_
      refine Eq.mpr (j_bipush d197_29 (by decide)) ?_
      refine Eq.mpr (j_iand d197_31) ?_
      have ha := and31 (aX X i)
      have e : (iI (aX X i) &&& iI 31).toInt = ban (aX X i) 31 := rfl
      rw [e]
      generalize ban (aX X i) 31 = x at ha ⊢
      rcases (show x = 0 ∨ x = 1 ∨ x = 2 ∨ x = 3 ∨ x = 4 ∨ x = 5 ∨ x = 6 ∨ x = 7 ∨ x = 8 ∨ x = 9 ∨ x = 10 ∨ x = 11 ∨ x = 12 ∨ x = 13 ∨ x = 14 ∨ x = 15 ∨ x = 16 ∨ x = 17 ∨ x = 18 ∨ x = 19 ∨ x = 20 ∨ x = 21 ∨ x = 22 ∨ x = 23 ∨ x = 24 ∨ x = 25 ∨ x = 26 ∨ x = 27 ∨ x = 28 ∨ x = 29 ∨ x = 30 ∨ x = 31 by omega) with rfl | rfl | rfl | rfl | rfl | rfl | rfl | rfl | rfl | rfl | rfl | rfl | rfl | rfl | rfl | rfl | rfl | rfl | rfl | rfl | rfl | rfl | rfl | rfl | rfl | rfl | rfl | rfl | rfl | rfl | rfl | rfl
      · refine Eq.mpr (g_tableIn (off := 144) (tgt := 176) d197_32 (by decide) (by decide) (by decide)) ?_
        exact law_0 hR hs hL.2 hi IH
      · refine Eq.mpr (g_tableIn (off := 207) (tgt := 239) d197_32 (by decide) (by decide) (by decide)) ?_
        exact law_1 hR hs hL.2 hi IH
      · refine Eq.mpr (g_tableIn (off := 220) (tgt := 252) d197_32 (by decide) (by decide) (by decide)) ?_
        exact law_2 hR hs hL.2 hi IH
      · refine Eq.mpr (g_tableIn (off := 233) (tgt := 265) d197_32 (by decide) (by decide) (by decide)) ?_
        exact law_3 hR hs hL.2 hi IH
      · refine Eq.mpr (g_tableIn (off := 246) (tgt := 278) d197_32 (by decide) (by decide) (by decide)) ?_
        exact law_4 hR hs hL.2 hi IH
      · refine Eq.mpr (g_tableIn (off := 269) (tgt := 301) d197_32 (by decide) (by decide) (by decide)) ?_
        exact law_5 hR hs hL.2 hi IH
      · refine Eq.mpr (g_tableIn (off := 302) (tgt := 334) d197_32 (by decide) (by decide) (by decide)) ?_
        exact law_6 hR hs hL.2 hi IH
      · refine Eq.mpr (g_tableIn (off := 345) (tgt := 377) d197_32 (by decide) (by decide) (by decide)) ?_
        exact law_7 hR hs hL.2 hi IH
      · refine Eq.mpr (g_tableIn (off := 378) (tgt := 410) d197_32 (by decide) (by decide) (by decide)) ?_
        exact law_8 hR hs hL.2 hi IH
      · refine Eq.mpr (g_tableIn (off := 401) (tgt := 433) d197_32 (by decide) (by decide) (by decide)) ?_
        exact law_9 hR hs hL.2 hi IH
      · refine Eq.mpr (g_tableIn (off := 434) (tgt := 466) d197_32 (by decide) (by decide) (by decide)) ?_
        exact law_10 hR hs hL.2 hi IH
      · refine Eq.mpr (g_tableIn (off := 457) (tgt := 489) d197_32 (by decide) (by decide) (by decide)) ?_
        exact law_11 hR hs hL.2 hi IH
      · refine Eq.mpr (g_tableIn (off := 480) (tgt := 512) d197_32 (by decide) (by decide) (by decide)) ?_
        exact law_12 hR hs hL.2 hi IH
      · refine Eq.mpr (g_tableIn (off := 503) (tgt := 535) d197_32 (by decide) (by decide) (by decide)) ?_
        exact law_13 hR hs hL.2 hi IH
      · refine Eq.mpr (g_tableIn (off := 526) (tgt := 558) d197_32 (by decide) (by decide) (by decide)) ?_
        exact law_14 hR hs hL.2 hi IH
      · refine Eq.mpr (g_tableIn (off := 549) (tgt := 581) d197_32 (by decide) (by decide) (by decide)) ?_
        exact law_15 hR hs hL.2 hi IH
      · refine Eq.mpr (g_tableIn (off := 572) (tgt := 604) d197_32 (by decide) (by decide) (by decide)) ?_
        exact law_16 hR hs hL.2 hi IH
      · refine Eq.mpr (g_tableIn (off := 605) (tgt := 637) d197_32 (by decide) (by decide) (by decide)) ?_
        exact law_17 hR hs hL.2 hi IH
      · refine Eq.mpr (g_tableIn (off := 638) (tgt := 670) d197_32 (by decide) (by decide) (by decide)) ?_
        exact law_18 hR hs hL.2 hi IH
      · refine Eq.mpr (g_tableIn (off := 661) (tgt := 693) d197_32 (by decide) (by decide) (by decide)) ?_
        exact law_19 hR hs hL.2 hi IH
      · refine Eq.mpr (g_tableIn (off := 674) (tgt := 706) d197_32 (by decide) (by decide) (by decide)) ?_
        exact law_20 hR hs hL.2 hi IH
      · refine Eq.mpr (g_tableIn (off := 707) (tgt := 739) d197_32 (by decide) (by decide) (by decide)) ?_
        exact law_21 hR hs hL.2 hi IH
      · refine Eq.mpr (g_tableIn (off := 750) (tgt := 782) d197_32 (by decide) (by decide) (by decide)) ?_
        exact law_22 hR hs hL.2 hi IH
      · refine Eq.mpr (g_tableIn (off := 803) (tgt := 835) d197_32 (by decide) (by decide) (by decide)) ?_
        exact law_23 hR hs hL.2 hi IH
      · refine Eq.mpr (g_tableIn (off := 816) (tgt := 848) d197_32 (by decide) (by decide) (by decide)) ?_
        exact law_24 hR hs hL.2 hi IH
      · refine Eq.mpr (g_tableIn (off := 839) (tgt := 871) d197_32 (by decide) (by decide) (by decide)) ?_
        exact law_25 hR hs hL.2 hi IH
      · refine Eq.mpr (g_tableIn (off := 882) (tgt := 914) d197_32 (by decide) (by decide) (by decide)) ?_
        exact law_26 hR hs hL.2 hi IH
      · refine Eq.mpr (g_tableIn (off := 895) (tgt := 927) d197_32 (by decide) (by decide) (by decide)) ?_
        exact law_27 hR hs hL.2 hi IH
      · refine Eq.mpr (g_tableIn (off := 908) (tgt := 940) d197_32 (by decide) (by decide) (by decide)) ?_
        exact law_28 hR hs hL.2 hi IH
      · refine Eq.mpr (g_tableIn (off := 941) (tgt := 973) d197_32 (by decide) (by decide) (by decide)) ?_
        exact law_29 hR hs hL.2 hi IH
      · refine Eq.mpr (g_tableIn (off := 964) (tgt := 996) d197_32 (by decide) (by decide) (by decide)) ?_
        exact law_30 hR hs hL.2 hi IH
      · refine Eq.mpr (g_tableIn (off := 987) (tgt := 1019) d197_32 (by decide) (by decide) (by decide)) ?_
        exact law_31 hR hs hL.2 hi IH
