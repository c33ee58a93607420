/-! isWord, for each constant, unrolled (wip/gen/inline.py) -/
section INL
variable {y pc : Nat} {lv : List (Option Value)} {Q : Option Value → mm → Prop} {r : List Value} {μ : mm}
theorem j_iandL {a b v : Int} (hi : ins y pc = some .iand) (hv : (iI a &&& iI b).toInt = v) : G y pc lv (vI b :: vI a :: r) μ Q = G y (pc + 1) lv (vI v :: r) μ Q := by subst hv; exact j_iand hi
theorem j_ishrL {a b v : Int} (hi : ins y pc = some .ishr) (hv : (iI a >>> (iI b &&& 31)).toInt = v) : G y pc lv (vI b :: vI a :: r) μ Q = G y (pc + 1) lv (vI v :: r) μ Q := by subst hv; exact j_ishr hi
theorem j_i2cL {a v : Int} (hi : ins y pc = some .i2c) (hv : ((iI a).toUInt32 % 65536).toInt32 = iI v) : G y pc lv (vI a :: r) μ Q = G y (pc + 1) lv (vI v :: r) μ Q := by rw [g_i2c hi, hv]
theorem j_alenL {k : Nat} {v : Int} (hi : ins y pc = some .arraylength) (h9 : ¬ k = 999) (hk : 1100 ≤ k ∧ k < 1107) (hv : Int32.ofNat (jsl.getD (k - 1100) 0) = iI v) : G y pc lv (.ref k :: r) μ Q = G y (pc + 1) lv (vI v :: r) μ Q := by rw [g_alenS hi h9 hk, hv]
theorem j_baloadL {k : Nat} {i v : Int} (hi : ins y pc = some .baload) (hk : 1100 ≤ k ∧ k < 1107) (hc : ¬ (iI i < 0 ∨ jsl.getD (k - 1100) 0 ≤ (iI i).toNatClampNeg)) (hv : (jsb.getD (k - 1100) []).getD (iI i).toNatClampNeg 0 = iI v) : G y pc lv (vI i :: .ref k :: r) μ Q = G y (pc + 1) lv (vI v :: r) μ Q := by rw [g_baloadS hi hk, if_neg hc, hv]
end INL
theorem d57_0 : ins 57 0 = some (.aload_n 0) := by decide +kernel
theorem d57_1 : ins 57 1 = some (.getfield 38) := by decide +kernel
theorem d57_4 : ins 57 4 = some (.aload_n 0) := by decide +kernel
theorem d57_5 : ins 57 5 = some (.getfield 45) := by decide +kernel
theorem d57_8 : ins 57 8 = some (.isub) := by decide +kernel
theorem d57_9 : ins 57 9 = some (.aload_n 1) := by decide +kernel
theorem d57_10 : ins 57 10 = some (.invokevirtual 121) := by decide +kernel
theorem d57_13 : ins 57 13 = some (.if_icmp .eq 5) := by decide +kernel
theorem d57_16 : ins 57 16 = some (.iconst 0) := by decide +kernel
theorem d57_17 : ins 57 17 = some (.ireturn) := by decide +kernel
theorem d57_18 : ins 57 18 = some (.iconst 0) := by decide +kernel
theorem d57_19 : ins 57 19 = some (.istore_n 2) := by decide +kernel
theorem d57_20 : ins 57 20 = some (.iload_n 2) := by decide +kernel
theorem d57_21 : ins 57 21 = some (.aload_n 1) := by decide +kernel
theorem d57_22 : ins 57 22 = some (.invokevirtual 121) := by decide +kernel
theorem d57_25 : ins 57 25 = some (.if_icmp .ge 33) := by decide +kernel
theorem d57_28 : ins 57 28 = some (.aload_n 0) := by decide +kernel
theorem d57_29 : ins 57 29 = some (.getfield 18) := by decide +kernel
theorem d57_32 : ins 57 32 = some (.getfield 88) := by decide +kernel
theorem d57_35 : ins 57 35 = some (.aload_n 0) := by decide +kernel
theorem d57_36 : ins 57 36 = some (.getfield 45) := by decide +kernel
theorem d57_39 : ins 57 39 = some (.iload_n 2) := by decide +kernel
theorem d57_40 : ins 57 40 = some (.iadd) := by decide +kernel
theorem d57_41 : ins 57 41 = some (.iaload) := by decide +kernel
theorem d57_42 : ins 57 42 = some (.aload_n 1) := by decide +kernel
theorem d57_43 : ins 57 43 = some (.iload_n 2) := by decide +kernel
theorem d57_44 : ins 57 44 = some (.invokevirtual 125) := by decide +kernel
theorem d57_47 : ins 57 47 = some (.if_icmp .eq 5) := by decide +kernel
theorem d57_50 : ins 57 50 = some (.iconst 0) := by decide +kernel
theorem d57_51 : ins 57 51 = some (.ireturn) := by decide +kernel
theorem d57_52 : ins 57 52 = some (.iinc 2 1) := by decide +kernel
theorem d57_55 : ins 57 55 = some (.goto (-35)) := by decide +kernel
theorem d57_58 : ins 57 58 = some (.iconst 1) := by decide +kernel
theorem d57_59 : ins 57 59 = some (.ireturn) := by decide +kernel
theorem d186_0 : ins 186 0 = some (.aload_n 0) := by decide +kernel
theorem d186_1 : ins 186 1 = some (.getfield 9) := by decide +kernel
theorem d186_4 : ins 186 4 = some (.arraylength) := by decide +kernel
theorem d186_5 : ins 186 5 = some (.aload_n 0) := by decide +kernel
theorem d186_6 : ins 186 6 = some (.invokevirtual 335) := by decide +kernel
theorem d186_9 : ins 186 9 = some (.ishr) := by decide +kernel
theorem d186_10 : ins 186 10 = some (.ireturn) := by decide +kernel
theorem d187_0 : ins 187 0 = some (.aload_n 0) := by decide +kernel
theorem d187_1 : ins 187 1 = some (.invokevirtual 492) := by decide +kernel
theorem d187_4 : ins 187 4 = some (.ifCond .eq 12) := by decide +kernel
theorem d187_7 : ins 187 7 = some (.aload_n 0) := by decide +kernel
theorem d187_8 : ins 187 8 = some (.getfield 9) := by decide +kernel
theorem d187_11 : ins 187 11 = some (.iload_n 1) := by decide +kernel
theorem d187_12 : ins 187 12 = some (.invokestatic 495) := by decide +kernel
theorem d187_15 : ins 187 15 = some (.ireturn) := by decide +kernel
theorem d188_0 : ins 188 0 = some (.getstatic 38) := by decide +kernel
theorem d188_3 : ins 188 3 = some (.ifCond .eq 10) := by decide +kernel
theorem d188_6 : ins 188 6 = some (.aload_n 0) := by decide +kernel
theorem d188_7 : ins 188 7 = some (.getfield 15) := by decide +kernel
theorem d188_10 : ins 188 10 = some (.goto 4) := by decide +kernel
theorem d188_14 : ins 188 14 = some (.ireturn) := by decide +kernel
theorem d189_0 : ins 189 0 = some (.getstatic 38) := by decide +kernel
theorem d189_3 : ins 189 3 = some (.ifCond .eq 14) := by decide +kernel
theorem d189_6 : ins 189 6 = some (.aload_n 0) := by decide +kernel
theorem d189_7 : ins 189 7 = some (.getfield 15) := by decide +kernel
theorem d189_10 : ins 189 10 = some (.ifCond .ne 7) := by decide +kernel
theorem d189_13 : ins 189 13 = some (.iconst 1) := by decide +kernel
theorem d189_14 : ins 189 14 = some (.goto 4) := by decide +kernel
theorem d189_18 : ins 189 18 = some (.ireturn) := by decide +kernel
theorem d190_0 : ins 190 0 = some (.iload_n 0) := by decide +kernel
theorem d190_1 : ins 190 1 = some (.iload_n 1) := by decide +kernel
theorem d190_2 : ins 190 2 = some (.getstatic 1053) := by decide +kernel
theorem d190_5 : ins 190 5 = some (.invokestatic 1059) := by decide +kernel
theorem d190_8 : ins 190 8 = some (.pop) := by decide +kernel
theorem d190_9 : ins 190 9 = some (.return_) := by decide +kernel
theorem d191_0 : ins 191 0 = some (.iload_n 1) := by decide +kernel
theorem d191_1 : ins 191 1 = some (.aload_n 0) := by decide +kernel
theorem d191_2 : ins 191 2 = some (.arraylength) := by decide +kernel
theorem d191_3 : ins 191 3 = some (.invokestatic 9) := by decide +kernel
theorem d191_6 : ins 191 6 = some (.aload_n 0) := by decide +kernel
theorem d191_7 : ins 191 7 = some (.iload_n 1) := by decide +kernel
theorem d191_8 : ins 191 8 = some (.baload) := by decide +kernel
theorem d191_9 : ins 191 9 = some (.sipush 255) := by decide +kernel
theorem d191_12 : ins 191 12 = some (.iand) := by decide +kernel
theorem d191_13 : ins 191 13 = some (.i2c) := by decide +kernel
theorem d191_14 : ins 191 14 = some (.ireturn) := by decide +kernel
theorem d196_0 : ins 196 0 = some (.iload_n 0) := by decide +kernel
theorem d196_1 : ins 196 1 = some (.ifCond .lt 8) := by decide +kernel
theorem d196_4 : ins 196 4 = some (.iload_n 0) := by decide +kernel
theorem d196_5 : ins 196 5 = some (.iload_n 1) := by decide +kernel
theorem d196_6 : ins 196 6 = some (.if_icmp .lt 10) := by decide +kernel
theorem d196_16 : ins 196 16 = some (.iload_n 0) := by decide +kernel
theorem d196_17 : ins 196 17 = some (.ireturn) := by decide +kernel
set_option maxRecDepth 10000 in
theorem w57_0 {Q : Option Value → mm → Prop} (ρ : rm) (τ : Int64) (hB : BM ρ) : G 57 0 [some (.ref 5), some (.ref 1000)] [] (toM ρ τ) Q = (if ((ρ 5 4) - (ρ 5 6)) = 6 then (if 0 ≤ ((ρ 5 6) + 0) ∧ ((ρ 5 6) + 0) < 200 then (if (ρ 37 ((ρ 5 6) + 0)) = 115 then (if 0 ≤ ((ρ 5 6) + 1) ∧ ((ρ 5 6) + 1) < 200 then (if (ρ 37 ((ρ 5 6) + 1)) = 116 then (if 0 ≤ ((ρ 5 6) + 2) ∧ ((ρ 5 6) + 2) < 200 then (if (ρ 37 ((ρ 5 6) + 2)) = 114 then (if 0 ≤ ((ρ 5 6) + 3) ∧ ((ρ 5 6) + 3) < 200 then (if (ρ 37 ((ρ 5 6) + 3)) = 101 then (if 0 ≤ ((ρ 5 6) + 4) ∧ ((ρ 5 6) + 4) < 200 then (if (ρ 37 ((ρ 5 6) + 4)) = 101 then (if 0 ≤ ((ρ 5 6) + 5) ∧ ((ρ 5 6) + 5) < 200 then (if (ρ 37 ((ρ 5 6) + 5)) = 116 then Q (some (vI 1)) (toM ρ τ) else Q (some (vI 0)) (toM ρ τ)) else False) else Q (some (vI 0)) (toM ρ τ)) else False) else Q (some (vI 0)) (toM ρ τ)) else False) else Q (some (vI 0)) (toM ρ τ)) else False) else Q (some (vI 0)) (toM ρ τ)) else False) else Q (some (vI 0)) (toM ρ τ)) else False) else Q (some (vI 0)) (toM ρ τ)) := by
  have p1 := hB 5 4 (by decide)
  have p2 := hB 5 6 (by decide)
  refine (g_aload_n d57_0 rfl rfl).trans ?_
  refine (j_getI (v := ρ 5 4) d57_1 f3_38 sh_5 (by decide) rfl rfl).trans ?_
  refine (g_aload_n d57_4 rfl rfl).trans ?_
  refine (j_getI (v := ρ 5 6) d57_5 f3_45 sh_5 (by decide) rfl rfl).trans ?_
  refine (j_isub d57_8).trans ?_
  refine (g_aload_n d57_9 rfl rfl).trans ?_
  refine (g_cV d57_10 k3_121 rfl rfl rfl).trans ?_
  show G 186 0 (some (.ref 1000) :: []) [] (toM ρ τ) _ = _
  refine (g_aload_n d186_0 rfl rfl).trans ?_
  refine (g_getS (v := .ref 1100) d186_1 (by decide) rfl).trans ?_
  refine (j_alenL (v := 6) d186_4 (by decide) (by decide) (by decide)).trans ?_
  refine (g_aload_n d186_5 rfl rfl).trans ?_
  refine (g_cV d186_6 k20_335 rfl rfl rfl).trans ?_
  show G 188 0 (some (.ref 1000) :: []) [] (toM ρ τ) _ = _
  refine (g_gets1 d188_0 rfl).trans ?_
  refine (show _ = _ from rfl : G 188 3 (some (.ref 1000) :: []) (.int 1 :: []) (toM ρ τ) _ = G 188 3 (some (.ref 1000) :: []) [vI 1] (toM ρ τ) _).trans ?_
  refine ((g_if_eq (tgt := 13) d188_3 (by decide)).trans (if_neg (by decide))).trans ?_
  refine (g_aload_n d188_6 rfl rfl).trans ?_
  refine (g_getS (v := vI 0) d188_7 (by decide) rfl).trans ?_
  refine (g_goto (tgt := 14) d188_10 (by decide)).trans ?_
  refine (g_iret d188_14 rfl (by decide)).trans ?_
  show G 186 9 (some (.ref 1000) :: []) [vI 0, vI 6] (toM ρ τ) _ = _
  refine (j_ishrL (v := 6) d186_9 (by decide)).trans ?_
  refine (g_iret d186_10 rfl rfl).trans ?_
  show G 57 13 (some (.ref 5) :: some (.ref 1000) :: []) [vI 6, vI ((ρ 5 4) - (ρ 5 6))] (toM ρ τ) _ = _
  refine j_icmp_eq (tgt := 18) d57_13 (by decide) (by omega) (by omega) (fun q1 => ?_) (fun q1 => ?_)
  ·
    refine (j_iconst d57_18).trans ?_
    refine (g_istore_n d57_19 (by decide) rfl rfl).trans ?_
    refine (g_iload_n d57_20 rfl).trans ?_
    refine (g_aload_n d57_21 rfl rfl).trans ?_
    refine (g_cV d57_22 k3_121 rfl rfl rfl).trans ?_
    show G 186 0 (some (.ref 1000) :: []) [] (toM ρ τ) _ = _
    refine (g_aload_n d186_0 rfl rfl).trans ?_
    refine (g_getS (v := .ref 1100) d186_1 (by decide) rfl).trans ?_
    refine (j_alenL (v := 6) d186_4 (by decide) (by decide) (by decide)).trans ?_
    refine (g_aload_n d186_5 rfl rfl).trans ?_
    refine (g_cV d186_6 k20_335 rfl rfl rfl).trans ?_
    show G 188 0 (some (.ref 1000) :: []) [] (toM ρ τ) _ = _
    refine (g_gets1 d188_0 rfl).trans ?_
    refine (show _ = _ from rfl : G 188 3 (some (.ref 1000) :: []) (.int 1 :: []) (toM ρ τ) _ = G 188 3 (some (.ref 1000) :: []) [vI 1] (toM ρ τ) _).trans ?_
    refine ((g_if_eq (tgt := 13) d188_3 (by decide)).trans (if_neg (by decide))).trans ?_
    refine (g_aload_n d188_6 rfl rfl).trans ?_
    refine (g_getS (v := vI 0) d188_7 (by decide) rfl).trans ?_
    refine (g_goto (tgt := 14) d188_10 (by decide)).trans ?_
    refine (g_iret d188_14 rfl (by decide)).trans ?_
    show G 186 9 (some (.ref 1000) :: []) [vI 0, vI 6] (toM ρ τ) _ = _
    refine (j_ishrL (v := 6) d186_9 (by decide)).trans ?_
    refine (g_iret d186_10 rfl rfl).trans ?_
    show G 57 25 (some (.ref 5) :: some (.ref 1000) :: some (vI 0) :: []) [vI 6, vI 0] (toM ρ τ) _ = _
    refine ((g_icmp_ge (tgt := 58) d57_25 (by decide)).trans (if_neg (by decide))).trans ?_
    refine (g_aload_n d57_28 rfl rfl).trans ?_
    refine (g_getR (q := 4) d57_29 f3_18 sh_5 (by decide) rfl).trans ?_
    refine (g_getR (q := 37) d57_32 f3_88 sh_4 (by decide) rfl).trans ?_
    refine (g_aload_n d57_35 rfl rfl).trans ?_
    refine (j_getI (v := ρ 5 6) d57_36 f3_45 sh_5 (by decide) rfl rfl).trans ?_
    refine (g_iload_n d57_39 rfl).trans ?_
    refine (j_iadd d57_40).trans ?_
    refine j_iaload (v := ρ 37 ((ρ 5 6) + 0)) d57_41 sh_37 (by omega) rfl (fun q2 => ?_)
    have q3 := hB 37 ((ρ 5 6) + 0) (by decide)
    refine (g_aload_n d57_42 rfl rfl).trans ?_
    refine (g_iload_n d57_43 rfl).trans ?_
    refine (g_cV d57_44 k3_125 rfl rfl rfl).trans ?_
    show G 187 0 (some (.ref 1000) :: some (vI 0) :: []) [] (toM ρ τ) _ = _
    refine (g_aload_n d187_0 rfl rfl).trans ?_
    refine (g_cV d187_1 k20_492 rfl rfl rfl).trans ?_
    show G 189 0 (some (.ref 1000) :: []) [] (toM ρ τ) _ = _
    refine (g_gets1 d189_0 rfl).trans ?_
    refine (show _ = _ from rfl : G 189 3 (some (.ref 1000) :: []) (.int 1 :: []) (toM ρ τ) _ = G 189 3 (some (.ref 1000) :: []) [vI 1] (toM ρ τ) _).trans ?_
    refine ((g_if_eq (tgt := 17) d189_3 (by decide)).trans (if_neg (by decide))).trans ?_
    refine (g_aload_n d189_6 rfl rfl).trans ?_
    refine (g_getS (v := vI 0) d189_7 (by decide) rfl).trans ?_
    refine ((g_if_ne (tgt := 17) d189_10 (by decide)).trans (if_pos (by decide))).trans ?_
    refine (j_iconst d189_13).trans ?_
    refine (g_goto (tgt := 18) d189_14 (by decide)).trans ?_
    refine (g_iret d189_18 rfl (by decide)).trans ?_
    show G 187 4 (some (.ref 1000) :: some (vI 0) :: []) [vI 1] (toM ρ τ) _ = _
    refine ((g_if_eq (tgt := 16) d187_4 (by decide)).trans (if_neg (by decide))).trans ?_
    refine (g_aload_n d187_7 rfl rfl).trans ?_
    refine (g_getS (v := .ref 1100) d187_8 (by decide) rfl).trans ?_
    refine (g_iload_n d187_11 rfl).trans ?_
    refine (g_cS d187_12 k20_495 rfl rfl rfl).trans ?_
    show G 191 0 (some (.ref 1100) :: some (vI 0) :: []) [] (toM ρ τ) _ = _
    refine (g_iload_n d191_0 rfl).trans ?_
    refine (g_aload_n d191_1 rfl rfl).trans ?_
    refine (j_alenL (v := 6) d191_2 (by decide) (by decide) (by decide)).trans ?_
    refine (g_cS d191_3 k21_9 rfl rfl rfl).trans ?_
    show G 190 0 (some (vI 0) :: some (vI 6) :: []) [] (toM ρ τ) _ = _
    refine (g_iload_n d190_0 rfl).trans ?_
    refine (g_iload_n d190_1 rfl).trans ?_
    refine (g_gets2 d190_2 rfl).trans ?_
    refine (g_cS d190_5 k20_1059 rfl rfl rfl).trans ?_
    show G 196 0 (some (vI 0) :: some (vI 6) :: some (.ref 1200) :: []) [] (toM ρ τ) _ = _
    refine (g_iload_n d196_0 rfl).trans ?_
    refine ((g_if_lt (tgt := 9) d196_1 (by decide)).trans (if_neg (by decide))).trans ?_
    refine (g_iload_n d196_4 rfl).trans ?_
    refine (g_iload_n d196_5 rfl).trans ?_
    refine ((g_icmp_lt (tgt := 16) d196_6 (by decide)).trans (if_pos (by decide))).trans ?_
    refine (g_iload_n d196_16 rfl).trans ?_
    refine (g_iret d196_17 rfl rfl).trans ?_
    show G 190 8 (some (vI 0) :: some (vI 6) :: []) [vI 0] (toM ρ τ) _ = _
    refine (g_pop d190_8).trans ?_
    refine (g_ret d190_9 rfl).trans ?_
    show G 191 6 (some (.ref 1100) :: some (vI 0) :: []) [] (toM ρ τ) _ = _
    refine (g_aload_n d191_6 rfl rfl).trans ?_
    refine (g_iload_n d191_7 rfl).trans ?_
    refine (j_baloadL (v := 115) d191_8 (by decide) (by decide) (by decide)).trans ?_
    refine (j_sipush d191_9 (by decide)).trans ?_
    refine (j_iandL (v := 115) d191_12 (by decide)).trans ?_
    refine (j_i2cL (v := 115) d191_13 (by decide)).trans ?_
    refine (g_iret d191_14 rfl (by decide)).trans ?_
    show G 187 15 (some (.ref 1000) :: some (vI 0) :: []) [vI 115] (toM ρ τ) _ = _
    refine (g_iret d187_15 rfl (by decide)).trans ?_
    show G 57 47 (some (.ref 5) :: some (.ref 1000) :: some (vI 0) :: []) [vI 115, vI (ρ 37 ((ρ 5 6) + 0))] (toM ρ τ) _ = _
    refine j_icmp_eq (tgt := 52) d57_47 (by decide) (by omega) (by omega) (fun q4 => ?_) (fun q4 => ?_)
    ·
      refine (j_iinc (x := 0) d57_52 rfl (by decide) rfl (lv' := (some (.ref 5) :: some (.ref 1000) :: some (vI 1) :: [])) rfl).trans ?_
      refine (g_goto (tgt := 20) d57_55 (by decide)).trans ?_
      refine (g_iload_n d57_20 rfl).trans ?_
      refine (g_aload_n d57_21 rfl rfl).trans ?_
      refine (g_cV d57_22 k3_121 rfl rfl rfl).trans ?_
      show G 186 0 (some (.ref 1000) :: []) [] (toM ρ τ) _ = _
      refine (g_aload_n d186_0 rfl rfl).trans ?_
      refine (g_getS (v := .ref 1100) d186_1 (by decide) rfl).trans ?_
      refine (j_alenL (v := 6) d186_4 (by decide) (by decide) (by decide)).trans ?_
      refine (g_aload_n d186_5 rfl rfl).trans ?_
      refine (g_cV d186_6 k20_335 rfl rfl rfl).trans ?_
      show G 188 0 (some (.ref 1000) :: []) [] (toM ρ τ) _ = _
      refine (g_gets1 d188_0 rfl).trans ?_
      refine (show _ = _ from rfl : G 188 3 (some (.ref 1000) :: []) (.int 1 :: []) (toM ρ τ) _ = G 188 3 (some (.ref 1000) :: []) [vI 1] (toM ρ τ) _).trans ?_
      refine ((g_if_eq (tgt := 13) d188_3 (by decide)).trans (if_neg (by decide))).trans ?_
      refine (g_aload_n d188_6 rfl rfl).trans ?_
      refine (g_getS (v := vI 0) d188_7 (by decide) rfl).trans ?_
      refine (g_goto (tgt := 14) d188_10 (by decide)).trans ?_
      refine (g_iret d188_14 rfl (by decide)).trans ?_
      show G 186 9 (some (.ref 1000) :: []) [vI 0, vI 6] (toM ρ τ) _ = _
      refine (j_ishrL (v := 6) d186_9 (by decide)).trans ?_
      refine (g_iret d186_10 rfl rfl).trans ?_
      show G 57 25 (some (.ref 5) :: some (.ref 1000) :: some (vI 1) :: []) [vI 6, vI 1] (toM ρ τ) _ = _
      refine ((g_icmp_ge (tgt := 58) d57_25 (by decide)).trans (if_neg (by decide))).trans ?_
      refine (g_aload_n d57_28 rfl rfl).trans ?_
      refine (g_getR (q := 4) d57_29 f3_18 sh_5 (by decide) rfl).trans ?_
      refine (g_getR (q := 37) d57_32 f3_88 sh_4 (by decide) rfl).trans ?_
      refine (g_aload_n d57_35 rfl rfl).trans ?_
      refine (j_getI (v := ρ 5 6) d57_36 f3_45 sh_5 (by decide) rfl rfl).trans ?_
      refine (g_iload_n d57_39 rfl).trans ?_
      refine (j_iadd d57_40).trans ?_
      refine j_iaload (v := ρ 37 ((ρ 5 6) + 1)) d57_41 sh_37 (by omega) rfl (fun q5 => ?_)
      have q6 := hB 37 ((ρ 5 6) + 1) (by decide)
      refine (g_aload_n d57_42 rfl rfl).trans ?_
      refine (g_iload_n d57_43 rfl).trans ?_
      refine (g_cV d57_44 k3_125 rfl rfl rfl).trans ?_
      show G 187 0 (some (.ref 1000) :: some (vI 1) :: []) [] (toM ρ τ) _ = _
      refine (g_aload_n d187_0 rfl rfl).trans ?_
      refine (g_cV d187_1 k20_492 rfl rfl rfl).trans ?_
      show G 189 0 (some (.ref 1000) :: []) [] (toM ρ τ) _ = _
      refine (g_gets1 d189_0 rfl).trans ?_
      refine (show _ = _ from rfl : G 189 3 (some (.ref 1000) :: []) (.int 1 :: []) (toM ρ τ) _ = G 189 3 (some (.ref 1000) :: []) [vI 1] (toM ρ τ) _).trans ?_
      refine ((g_if_eq (tgt := 17) d189_3 (by decide)).trans (if_neg (by decide))).trans ?_
      refine (g_aload_n d189_6 rfl rfl).trans ?_
      refine (g_getS (v := vI 0) d189_7 (by decide) rfl).trans ?_
      refine ((g_if_ne (tgt := 17) d189_10 (by decide)).trans (if_pos (by decide))).trans ?_
      refine (j_iconst d189_13).trans ?_
      refine (g_goto (tgt := 18) d189_14 (by decide)).trans ?_
      refine (g_iret d189_18 rfl (by decide)).trans ?_
      show G 187 4 (some (.ref 1000) :: some (vI 1) :: []) [vI 1] (toM ρ τ) _ = _
      refine ((g_if_eq (tgt := 16) d187_4 (by decide)).trans (if_neg (by decide))).trans ?_
      refine (g_aload_n d187_7 rfl rfl).trans ?_
      refine (g_getS (v := .ref 1100) d187_8 (by decide) rfl).trans ?_
      refine (g_iload_n d187_11 rfl).trans ?_
      refine (g_cS d187_12 k20_495 rfl rfl rfl).trans ?_
      show G 191 0 (some (.ref 1100) :: some (vI 1) :: []) [] (toM ρ τ) _ = _
      refine (g_iload_n d191_0 rfl).trans ?_
      refine (g_aload_n d191_1 rfl rfl).trans ?_
      refine (j_alenL (v := 6) d191_2 (by decide) (by decide) (by decide)).trans ?_
      refine (g_cS d191_3 k21_9 rfl rfl rfl).trans ?_
      show G 190 0 (some (vI 1) :: some (vI 6) :: []) [] (toM ρ τ) _ = _
      refine (g_iload_n d190_0 rfl).trans ?_
      refine (g_iload_n d190_1 rfl).trans ?_
      refine (g_gets2 d190_2 rfl).trans ?_
      refine (g_cS d190_5 k20_1059 rfl rfl rfl).trans ?_
      show G 196 0 (some (vI 1) :: some (vI 6) :: some (.ref 1200) :: []) [] (toM ρ τ) _ = _
      refine (g_iload_n d196_0 rfl).trans ?_
      refine ((g_if_lt (tgt := 9) d196_1 (by decide)).trans (if_neg (by decide))).trans ?_
      refine (g_iload_n d196_4 rfl).trans ?_
      refine (g_iload_n d196_5 rfl).trans ?_
      refine ((g_icmp_lt (tgt := 16) d196_6 (by decide)).trans (if_pos (by decide))).trans ?_
      refine (g_iload_n d196_16 rfl).trans ?_
      refine (g_iret d196_17 rfl rfl).trans ?_
      show G 190 8 (some (vI 1) :: some (vI 6) :: []) [vI 1] (toM ρ τ) _ = _
      refine (g_pop d190_8).trans ?_
      refine (g_ret d190_9 rfl).trans ?_
      show G 191 6 (some (.ref 1100) :: some (vI 1) :: []) [] (toM ρ τ) _ = _
      refine (g_aload_n d191_6 rfl rfl).trans ?_
      refine (g_iload_n d191_7 rfl).trans ?_
      refine (j_baloadL (v := 116) d191_8 (by decide) (by decide) (by decide)).trans ?_
      refine (j_sipush d191_9 (by decide)).trans ?_
      refine (j_iandL (v := 116) d191_12 (by decide)).trans ?_
      refine (j_i2cL (v := 116) d191_13 (by decide)).trans ?_
      refine (g_iret d191_14 rfl (by decide)).trans ?_
      show G 187 15 (some (.ref 1000) :: some (vI 1) :: []) [vI 116] (toM ρ τ) _ = _
      refine (g_iret d187_15 rfl (by decide)).trans ?_
      show G 57 47 (some (.ref 5) :: some (.ref 1000) :: some (vI 1) :: []) [vI 116, vI (ρ 37 ((ρ 5 6) + 1))] (toM ρ τ) _ = _
      refine j_icmp_eq (tgt := 52) d57_47 (by decide) (by omega) (by omega) (fun q7 => ?_) (fun q7 => ?_)
      ·
        refine (j_iinc (x := 1) d57_52 rfl (by decide) rfl (lv' := (some (.ref 5) :: some (.ref 1000) :: some (vI 2) :: [])) rfl).trans ?_
        refine (g_goto (tgt := 20) d57_55 (by decide)).trans ?_
        refine (g_iload_n d57_20 rfl).trans ?_
        refine (g_aload_n d57_21 rfl rfl).trans ?_
        refine (g_cV d57_22 k3_121 rfl rfl rfl).trans ?_
        show G 186 0 (some (.ref 1000) :: []) [] (toM ρ τ) _ = _
        refine (g_aload_n d186_0 rfl rfl).trans ?_
        refine (g_getS (v := .ref 1100) d186_1 (by decide) rfl).trans ?_
        refine (j_alenL (v := 6) d186_4 (by decide) (by decide) (by decide)).trans ?_
        refine (g_aload_n d186_5 rfl rfl).trans ?_
        refine (g_cV d186_6 k20_335 rfl rfl rfl).trans ?_
        show G 188 0 (some (.ref 1000) :: []) [] (toM ρ τ) _ = _
        refine (g_gets1 d188_0 rfl).trans ?_
        refine (show _ = _ from rfl : G 188 3 (some (.ref 1000) :: []) (.int 1 :: []) (toM ρ τ) _ = G 188 3 (some (.ref 1000) :: []) [vI 1] (toM ρ τ) _).trans ?_
        refine ((g_if_eq (tgt := 13) d188_3 (by decide)).trans (if_neg (by decide))).trans ?_
        refine (g_aload_n d188_6 rfl rfl).trans ?_
        refine (g_getS (v := vI 0) d188_7 (by decide) rfl).trans ?_
        refine (g_goto (tgt := 14) d188_10 (by decide)).trans ?_
        refine (g_iret d188_14 rfl (by decide)).trans ?_
        show G 186 9 (some (.ref 1000) :: []) [vI 0, vI 6] (toM ρ τ) _ = _
        refine (j_ishrL (v := 6) d186_9 (by decide)).trans ?_
        refine (g_iret d186_10 rfl rfl).trans ?_
        show G 57 25 (some (.ref 5) :: some (.ref 1000) :: some (vI 2) :: []) [vI 6, vI 2] (toM ρ τ) _ = _
        refine ((g_icmp_ge (tgt := 58) d57_25 (by decide)).trans (if_neg (by decide))).trans ?_
        refine (g_aload_n d57_28 rfl rfl).trans ?_
        refine (g_getR (q := 4) d57_29 f3_18 sh_5 (by decide) rfl).trans ?_
        refine (g_getR (q := 37) d57_32 f3_88 sh_4 (by decide) rfl).trans ?_
        refine (g_aload_n d57_35 rfl rfl).trans ?_
        refine (j_getI (v := ρ 5 6) d57_36 f3_45 sh_5 (by decide) rfl rfl).trans ?_
        refine (g_iload_n d57_39 rfl).trans ?_
        refine (j_iadd d57_40).trans ?_
        refine j_iaload (v := ρ 37 ((ρ 5 6) + 2)) d57_41 sh_37 (by omega) rfl (fun q8 => ?_)
        have q9 := hB 37 ((ρ 5 6) + 2) (by decide)
        refine (g_aload_n d57_42 rfl rfl).trans ?_
        refine (g_iload_n d57_43 rfl).trans ?_
        refine (g_cV d57_44 k3_125 rfl rfl rfl).trans ?_
        show G 187 0 (some (.ref 1000) :: some (vI 2) :: []) [] (toM ρ τ) _ = _
        refine (g_aload_n d187_0 rfl rfl).trans ?_
        refine (g_cV d187_1 k20_492 rfl rfl rfl).trans ?_
        show G 189 0 (some (.ref 1000) :: []) [] (toM ρ τ) _ = _
        refine (g_gets1 d189_0 rfl).trans ?_
        refine (show _ = _ from rfl : G 189 3 (some (.ref 1000) :: []) (.int 1 :: []) (toM ρ τ) _ = G 189 3 (some (.ref 1000) :: []) [vI 1] (toM ρ τ) _).trans ?_
        refine ((g_if_eq (tgt := 17) d189_3 (by decide)).trans (if_neg (by decide))).trans ?_
        refine (g_aload_n d189_6 rfl rfl).trans ?_
        refine (g_getS (v := vI 0) d189_7 (by decide) rfl).trans ?_
        refine ((g_if_ne (tgt := 17) d189_10 (by decide)).trans (if_pos (by decide))).trans ?_
        refine (j_iconst d189_13).trans ?_
        refine (g_goto (tgt := 18) d189_14 (by decide)).trans ?_
        refine (g_iret d189_18 rfl (by decide)).trans ?_
        show G 187 4 (some (.ref 1000) :: some (vI 2) :: []) [vI 1] (toM ρ τ) _ = _
        refine ((g_if_eq (tgt := 16) d187_4 (by decide)).trans (if_neg (by decide))).trans ?_
        refine (g_aload_n d187_7 rfl rfl).trans ?_
        refine (g_getS (v := .ref 1100) d187_8 (by decide) rfl).trans ?_
        refine (g_iload_n d187_11 rfl).trans ?_
        refine (g_cS d187_12 k20_495 rfl rfl rfl).trans ?_
        show G 191 0 (some (.ref 1100) :: some (vI 2) :: []) [] (toM ρ τ) _ = _
        refine (g_iload_n d191_0 rfl).trans ?_
        refine (g_aload_n d191_1 rfl rfl).trans ?_
        refine (j_alenL (v := 6) d191_2 (by decide) (by decide) (by decide)).trans ?_
        refine (g_cS d191_3 k21_9 rfl rfl rfl).trans ?_
        show G 190 0 (some (vI 2) :: some (vI 6) :: []) [] (toM ρ τ) _ = _
        refine (g_iload_n d190_0 rfl).trans ?_
        refine (g_iload_n d190_1 rfl).trans ?_
        refine (g_gets2 d190_2 rfl).trans ?_
        refine (g_cS d190_5 k20_1059 rfl rfl rfl).trans ?_
        show G 196 0 (some (vI 2) :: some (vI 6) :: some (.ref 1200) :: []) [] (toM ρ τ) _ = _
        refine (g_iload_n d196_0 rfl).trans ?_
        refine ((g_if_lt (tgt := 9) d196_1 (by decide)).trans (if_neg (by decide))).trans ?_
        refine (g_iload_n d196_4 rfl).trans ?_
        refine (g_iload_n d196_5 rfl).trans ?_
        refine ((g_icmp_lt (tgt := 16) d196_6 (by decide)).trans (if_pos (by decide))).trans ?_
        refine (g_iload_n d196_16 rfl).trans ?_
        refine (g_iret d196_17 rfl rfl).trans ?_
        show G 190 8 (some (vI 2) :: some (vI 6) :: []) [vI 2] (toM ρ τ) _ = _
        refine (g_pop d190_8).trans ?_
        refine (g_ret d190_9 rfl).trans ?_
        show G 191 6 (some (.ref 1100) :: some (vI 2) :: []) [] (toM ρ τ) _ = _
        refine (g_aload_n d191_6 rfl rfl).trans ?_
        refine (g_iload_n d191_7 rfl).trans ?_
        refine (j_baloadL (v := 114) d191_8 (by decide) (by decide) (by decide)).trans ?_
        refine (j_sipush d191_9 (by decide)).trans ?_
        refine (j_iandL (v := 114) d191_12 (by decide)).trans ?_
        refine (j_i2cL (v := 114) d191_13 (by decide)).trans ?_
        refine (g_iret d191_14 rfl (by decide)).trans ?_
        show G 187 15 (some (.ref 1000) :: some (vI 2) :: []) [vI 114] (toM ρ τ) _ = _
        refine (g_iret d187_15 rfl (by decide)).trans ?_
        show G 57 47 (some (.ref 5) :: some (.ref 1000) :: some (vI 2) :: []) [vI 114, vI (ρ 37 ((ρ 5 6) + 2))] (toM ρ τ) _ = _
        refine j_icmp_eq (tgt := 52) d57_47 (by decide) (by omega) (by omega) (fun q10 => ?_) (fun q10 => ?_)
        ·
          refine (j_iinc (x := 2) d57_52 rfl (by decide) rfl (lv' := (some (.ref 5) :: some (.ref 1000) :: some (vI 3) :: [])) rfl).trans ?_
          refine (g_goto (tgt := 20) d57_55 (by decide)).trans ?_
          refine (g_iload_n d57_20 rfl).trans ?_
          refine (g_aload_n d57_21 rfl rfl).trans ?_
          refine (g_cV d57_22 k3_121 rfl rfl rfl).trans ?_
          show G 186 0 (some (.ref 1000) :: []) [] (toM ρ τ) _ = _
          refine (g_aload_n d186_0 rfl rfl).trans ?_
          refine (g_getS (v := .ref 1100) d186_1 (by decide) rfl).trans ?_
          refine (j_alenL (v := 6) d186_4 (by decide) (by decide) (by decide)).trans ?_
          refine (g_aload_n d186_5 rfl rfl).trans ?_
          refine (g_cV d186_6 k20_335 rfl rfl rfl).trans ?_
          show G 188 0 (some (.ref 1000) :: []) [] (toM ρ τ) _ = _
          refine (g_gets1 d188_0 rfl).trans ?_
          refine (show _ = _ from rfl : G 188 3 (some (.ref 1000) :: []) (.int 1 :: []) (toM ρ τ) _ = G 188 3 (some (.ref 1000) :: []) [vI 1] (toM ρ τ) _).trans ?_
          refine ((g_if_eq (tgt := 13) d188_3 (by decide)).trans (if_neg (by decide))).trans ?_
          refine (g_aload_n d188_6 rfl rfl).trans ?_
          refine (g_getS (v := vI 0) d188_7 (by decide) rfl).trans ?_
          refine (g_goto (tgt := 14) d188_10 (by decide)).trans ?_
          refine (g_iret d188_14 rfl (by decide)).trans ?_
          show G 186 9 (some (.ref 1000) :: []) [vI 0, vI 6] (toM ρ τ) _ = _
          refine (j_ishrL (v := 6) d186_9 (by decide)).trans ?_
          refine (g_iret d186_10 rfl rfl).trans ?_
          show G 57 25 (some (.ref 5) :: some (.ref 1000) :: some (vI 3) :: []) [vI 6, vI 3] (toM ρ τ) _ = _
          refine ((g_icmp_ge (tgt := 58) d57_25 (by decide)).trans (if_neg (by decide))).trans ?_
          refine (g_aload_n d57_28 rfl rfl).trans ?_
          refine (g_getR (q := 4) d57_29 f3_18 sh_5 (by decide) rfl).trans ?_
          refine (g_getR (q := 37) d57_32 f3_88 sh_4 (by decide) rfl).trans ?_
          refine (g_aload_n d57_35 rfl rfl).trans ?_
          refine (j_getI (v := ρ 5 6) d57_36 f3_45 sh_5 (by decide) rfl rfl).trans ?_
          refine (g_iload_n d57_39 rfl).trans ?_
          refine (j_iadd d57_40).trans ?_
          refine j_iaload (v := ρ 37 ((ρ 5 6) + 3)) d57_41 sh_37 (by omega) rfl (fun q11 => ?_)
          have q12 := hB 37 ((ρ 5 6) + 3) (by decide)
          refine (g_aload_n d57_42 rfl rfl).trans ?_
          refine (g_iload_n d57_43 rfl).trans ?_
          refine (g_cV d57_44 k3_125 rfl rfl rfl).trans ?_
          show G 187 0 (some (.ref 1000) :: some (vI 3) :: []) [] (toM ρ τ) _ = _
          refine (g_aload_n d187_0 rfl rfl).trans ?_
          refine (g_cV d187_1 k20_492 rfl rfl rfl).trans ?_
          show G 189 0 (some (.ref 1000) :: []) [] (toM ρ τ) _ = _
          refine (g_gets1 d189_0 rfl).trans ?_
          refine (show _ = _ from rfl : G 189 3 (some (.ref 1000) :: []) (.int 1 :: []) (toM ρ τ) _ = G 189 3 (some (.ref 1000) :: []) [vI 1] (toM ρ τ) _).trans ?_
          refine ((g_if_eq (tgt := 17) d189_3 (by decide)).trans (if_neg (by decide))).trans ?_
          refine (g_aload_n d189_6 rfl rfl).trans ?_
          refine (g_getS (v := vI 0) d189_7 (by decide) rfl).trans ?_
          refine ((g_if_ne (tgt := 17) d189_10 (by decide)).trans (if_pos (by decide))).trans ?_
          refine (j_iconst d189_13).trans ?_
          refine (g_goto (tgt := 18) d189_14 (by decide)).trans ?_
          refine (g_iret d189_18 rfl (by decide)).trans ?_
          show G 187 4 (some (.ref 1000) :: some (vI 3) :: []) [vI 1] (toM ρ τ) _ = _
          refine ((g_if_eq (tgt := 16) d187_4 (by decide)).trans (if_neg (by decide))).trans ?_
          refine (g_aload_n d187_7 rfl rfl).trans ?_
          refine (g_getS (v := .ref 1100) d187_8 (by decide) rfl).trans ?_
          refine (g_iload_n d187_11 rfl).trans ?_
          refine (g_cS d187_12 k20_495 rfl rfl rfl).trans ?_
          show G 191 0 (some (.ref 1100) :: some (vI 3) :: []) [] (toM ρ τ) _ = _
          refine (g_iload_n d191_0 rfl).trans ?_
          refine (g_aload_n d191_1 rfl rfl).trans ?_
          refine (j_alenL (v := 6) d191_2 (by decide) (by decide) (by decide)).trans ?_
          refine (g_cS d191_3 k21_9 rfl rfl rfl).trans ?_
          show G 190 0 (some (vI 3) :: some (vI 6) :: []) [] (toM ρ τ) _ = _
          refine (g_iload_n d190_0 rfl).trans ?_
          refine (g_iload_n d190_1 rfl).trans ?_
          refine (g_gets2 d190_2 rfl).trans ?_
          refine (g_cS d190_5 k20_1059 rfl rfl rfl).trans ?_
          show G 196 0 (some (vI 3) :: some (vI 6) :: some (.ref 1200) :: []) [] (toM ρ τ) _ = _
          refine (g_iload_n d196_0 rfl).trans ?_
          refine ((g_if_lt (tgt := 9) d196_1 (by decide)).trans (if_neg (by decide))).trans ?_
          refine (g_iload_n d196_4 rfl).trans ?_
          refine (g_iload_n d196_5 rfl).trans ?_
          refine ((g_icmp_lt (tgt := 16) d196_6 (by decide)).trans (if_pos (by decide))).trans ?_
          refine (g_iload_n d196_16 rfl).trans ?_
          refine (g_iret d196_17 rfl rfl).trans ?_
          show G 190 8 (some (vI 3) :: some (vI 6) :: []) [vI 3] (toM ρ τ) _ = _
          refine (g_pop d190_8).trans ?_
          refine (g_ret d190_9 rfl).trans ?_
          show G 191 6 (some (.ref 1100) :: some (vI 3) :: []) [] (toM ρ τ) _ = _
          refine (g_aload_n d191_6 rfl rfl).trans ?_
          refine (g_iload_n d191_7 rfl).trans ?_
          refine (j_baloadL (v := 101) d191_8 (by decide) (by decide) (by decide)).trans ?_
          refine (j_sipush d191_9 (by decide)).trans ?_
          refine (j_iandL (v := 101) d191_12 (by decide)).trans ?_
          refine (j_i2cL (v := 101) d191_13 (by decide)).trans ?_
          refine (g_iret d191_14 rfl (by decide)).trans ?_
          show G 187 15 (some (.ref 1000) :: some (vI 3) :: []) [vI 101] (toM ρ τ) _ = _
          refine (g_iret d187_15 rfl (by decide)).trans ?_
          show G 57 47 (some (.ref 5) :: some (.ref 1000) :: some (vI 3) :: []) [vI 101, vI (ρ 37 ((ρ 5 6) + 3))] (toM ρ τ) _ = _
          refine j_icmp_eq (tgt := 52) d57_47 (by decide) (by omega) (by omega) (fun q13 => ?_) (fun q13 => ?_)
          ·
            refine (j_iinc (x := 3) d57_52 rfl (by decide) rfl (lv' := (some (.ref 5) :: some (.ref 1000) :: some (vI 4) :: [])) rfl).trans ?_
            refine (g_goto (tgt := 20) d57_55 (by decide)).trans ?_
            refine (g_iload_n d57_20 rfl).trans ?_
            refine (g_aload_n d57_21 rfl rfl).trans ?_
            refine (g_cV d57_22 k3_121 rfl rfl rfl).trans ?_
            show G 186 0 (some (.ref 1000) :: []) [] (toM ρ τ) _ = _
            refine (g_aload_n d186_0 rfl rfl).trans ?_
            refine (g_getS (v := .ref 1100) d186_1 (by decide) rfl).trans ?_
            refine (j_alenL (v := 6) d186_4 (by decide) (by decide) (by decide)).trans ?_
            refine (g_aload_n d186_5 rfl rfl).trans ?_
            refine (g_cV d186_6 k20_335 rfl rfl rfl).trans ?_
            show G 188 0 (some (.ref 1000) :: []) [] (toM ρ τ) _ = _
            refine (g_gets1 d188_0 rfl).trans ?_
            refine (show _ = _ from rfl : G 188 3 (some (.ref 1000) :: []) (.int 1 :: []) (toM ρ τ) _ = G 188 3 (some (.ref 1000) :: []) [vI 1] (toM ρ τ) _).trans ?_
            refine ((g_if_eq (tgt := 13) d188_3 (by decide)).trans (if_neg (by decide))).trans ?_
            refine (g_aload_n d188_6 rfl rfl).trans ?_
            refine (g_getS (v := vI 0) d188_7 (by decide) rfl).trans ?_
            refine (g_goto (tgt := 14) d188_10 (by decide)).trans ?_
            refine (g_iret d188_14 rfl (by decide)).trans ?_
            show G 186 9 (some (.ref 1000) :: []) [vI 0, vI 6] (toM ρ τ) _ = _
            refine (j_ishrL (v := 6) d186_9 (by decide)).trans ?_
            refine (g_iret d186_10 rfl rfl).trans ?_
            show G 57 25 (some (.ref 5) :: some (.ref 1000) :: some (vI 4) :: []) [vI 6, vI 4] (toM ρ τ) _ = _
            refine ((g_icmp_ge (tgt := 58) d57_25 (by decide)).trans (if_neg (by decide))).trans ?_
            refine (g_aload_n d57_28 rfl rfl).trans ?_
            refine (g_getR (q := 4) d57_29 f3_18 sh_5 (by decide) rfl).trans ?_
            refine (g_getR (q := 37) d57_32 f3_88 sh_4 (by decide) rfl).trans ?_
            refine (g_aload_n d57_35 rfl rfl).trans ?_
            refine (j_getI (v := ρ 5 6) d57_36 f3_45 sh_5 (by decide) rfl rfl).trans ?_
            refine (g_iload_n d57_39 rfl).trans ?_
            refine (j_iadd d57_40).trans ?_
            refine j_iaload (v := ρ 37 ((ρ 5 6) + 4)) d57_41 sh_37 (by omega) rfl (fun q14 => ?_)
            have q15 := hB 37 ((ρ 5 6) + 4) (by decide)
            refine (g_aload_n d57_42 rfl rfl).trans ?_
            refine (g_iload_n d57_43 rfl).trans ?_
            refine (g_cV d57_44 k3_125 rfl rfl rfl).trans ?_
            show G 187 0 (some (.ref 1000) :: some (vI 4) :: []) [] (toM ρ τ) _ = _
            refine (g_aload_n d187_0 rfl rfl).trans ?_
            refine (g_cV d187_1 k20_492 rfl rfl rfl).trans ?_
            show G 189 0 (some (.ref 1000) :: []) [] (toM ρ τ) _ = _
            refine (g_gets1 d189_0 rfl).trans ?_
            refine (show _ = _ from rfl : G 189 3 (some (.ref 1000) :: []) (.int 1 :: []) (toM ρ τ) _ = G 189 3 (some (.ref 1000) :: []) [vI 1] (toM ρ τ) _).trans ?_
            refine ((g_if_eq (tgt := 17) d189_3 (by decide)).trans (if_neg (by decide))).trans ?_
            refine (g_aload_n d189_6 rfl rfl).trans ?_
            refine (g_getS (v := vI 0) d189_7 (by decide) rfl).trans ?_
            refine ((g_if_ne (tgt := 17) d189_10 (by decide)).trans (if_pos (by decide))).trans ?_
            refine (j_iconst d189_13).trans ?_
            refine (g_goto (tgt := 18) d189_14 (by decide)).trans ?_
            refine (g_iret d189_18 rfl (by decide)).trans ?_
            show G 187 4 (some (.ref 1000) :: some (vI 4) :: []) [vI 1] (toM ρ τ) _ = _
            refine ((g_if_eq (tgt := 16) d187_4 (by decide)).trans (if_neg (by decide))).trans ?_
            refine (g_aload_n d187_7 rfl rfl).trans ?_
            refine (g_getS (v := .ref 1100) d187_8 (by decide) rfl).trans ?_
            refine (g_iload_n d187_11 rfl).trans ?_
            refine (g_cS d187_12 k20_495 rfl rfl rfl).trans ?_
            show G 191 0 (some (.ref 1100) :: some (vI 4) :: []) [] (toM ρ τ) _ = _
            refine (g_iload_n d191_0 rfl).trans ?_
            refine (g_aload_n d191_1 rfl rfl).trans ?_
            refine (j_alenL (v := 6) d191_2 (by decide) (by decide) (by decide)).trans ?_
            refine (g_cS d191_3 k21_9 rfl rfl rfl).trans ?_
            show G 190 0 (some (vI 4) :: some (vI 6) :: []) [] (toM ρ τ) _ = _
            refine (g_iload_n d190_0 rfl).trans ?_
            refine (g_iload_n d190_1 rfl).trans ?_
            refine (g_gets2 d190_2 rfl).trans ?_
            refine (g_cS d190_5 k20_1059 rfl rfl rfl).trans ?_
            show G 196 0 (some (vI 4) :: some (vI 6) :: some (.ref 1200) :: []) [] (toM ρ τ) _ = _
            refine (g_iload_n d196_0 rfl).trans ?_
            refine ((g_if_lt (tgt := 9) d196_1 (by decide)).trans (if_neg (by decide))).trans ?_
            refine (g_iload_n d196_4 rfl).trans ?_
            refine (g_iload_n d196_5 rfl).trans ?_
            refine ((g_icmp_lt (tgt := 16) d196_6 (by decide)).trans (if_pos (by decide))).trans ?_
            refine (g_iload_n d196_16 rfl).trans ?_
            refine (g_iret d196_17 rfl rfl).trans ?_
            show G 190 8 (some (vI 4) :: some (vI 6) :: []) [vI 4] (toM ρ τ) _ = _
            refine (g_pop d190_8).trans ?_
            refine (g_ret d190_9 rfl).trans ?_
            show G 191 6 (some (.ref 1100) :: some (vI 4) :: []) [] (toM ρ τ) _ = _
            refine (g_aload_n d191_6 rfl rfl).trans ?_
            refine (g_iload_n d191_7 rfl).trans ?_
            refine (j_baloadL (v := 101) d191_8 (by decide) (by decide) (by decide)).trans ?_
            refine (j_sipush d191_9 (by decide)).trans ?_
            refine (j_iandL (v := 101) d191_12 (by decide)).trans ?_
            refine (j_i2cL (v := 101) d191_13 (by decide)).trans ?_
            refine (g_iret d191_14 rfl (by decide)).trans ?_
            show G 187 15 (some (.ref 1000) :: some (vI 4) :: []) [vI 101] (toM ρ τ) _ = _
            refine (g_iret d187_15 rfl (by decide)).trans ?_
            show G 57 47 (some (.ref 5) :: some (.ref 1000) :: some (vI 4) :: []) [vI 101, vI (ρ 37 ((ρ 5 6) + 4))] (toM ρ τ) _ = _
            refine j_icmp_eq (tgt := 52) d57_47 (by decide) (by omega) (by omega) (fun q16 => ?_) (fun q16 => ?_)
            ·
              refine (j_iinc (x := 4) d57_52 rfl (by decide) rfl (lv' := (some (.ref 5) :: some (.ref 1000) :: some (vI 5) :: [])) rfl).trans ?_
              refine (g_goto (tgt := 20) d57_55 (by decide)).trans ?_
              refine (g_iload_n d57_20 rfl).trans ?_
              refine (g_aload_n d57_21 rfl rfl).trans ?_
              refine (g_cV d57_22 k3_121 rfl rfl rfl).trans ?_
              show G 186 0 (some (.ref 1000) :: []) [] (toM ρ τ) _ = _
              refine (g_aload_n d186_0 rfl rfl).trans ?_
              refine (g_getS (v := .ref 1100) d186_1 (by decide) rfl).trans ?_
              refine (j_alenL (v := 6) d186_4 (by decide) (by decide) (by decide)).trans ?_
              refine (g_aload_n d186_5 rfl rfl).trans ?_
              refine (g_cV d186_6 k20_335 rfl rfl rfl).trans ?_
              show G 188 0 (some (.ref 1000) :: []) [] (toM ρ τ) _ = _
              refine (g_gets1 d188_0 rfl).trans ?_
              refine (show _ = _ from rfl : G 188 3 (some (.ref 1000) :: []) (.int 1 :: []) (toM ρ τ) _ = G 188 3 (some (.ref 1000) :: []) [vI 1] (toM ρ τ) _).trans ?_
              refine ((g_if_eq (tgt := 13) d188_3 (by decide)).trans (if_neg (by decide))).trans ?_
              refine (g_aload_n d188_6 rfl rfl).trans ?_
              refine (g_getS (v := vI 0) d188_7 (by decide) rfl).trans ?_
              refine (g_goto (tgt := 14) d188_10 (by decide)).trans ?_
              refine (g_iret d188_14 rfl (by decide)).trans ?_
              show G 186 9 (some (.ref 1000) :: []) [vI 0, vI 6] (toM ρ τ) _ = _
              refine (j_ishrL (v := 6) d186_9 (by decide)).trans ?_
              refine (g_iret d186_10 rfl rfl).trans ?_
              show G 57 25 (some (.ref 5) :: some (.ref 1000) :: some (vI 5) :: []) [vI 6, vI 5] (toM ρ τ) _ = _
              refine ((g_icmp_ge (tgt := 58) d57_25 (by decide)).trans (if_neg (by decide))).trans ?_
              refine (g_aload_n d57_28 rfl rfl).trans ?_
              refine (g_getR (q := 4) d57_29 f3_18 sh_5 (by decide) rfl).trans ?_
              refine (g_getR (q := 37) d57_32 f3_88 sh_4 (by decide) rfl).trans ?_
              refine (g_aload_n d57_35 rfl rfl).trans ?_
              refine (j_getI (v := ρ 5 6) d57_36 f3_45 sh_5 (by decide) rfl rfl).trans ?_
              refine (g_iload_n d57_39 rfl).trans ?_
              refine (j_iadd d57_40).trans ?_
              refine j_iaload (v := ρ 37 ((ρ 5 6) + 5)) d57_41 sh_37 (by omega) rfl (fun q17 => ?_)
              have q18 := hB 37 ((ρ 5 6) + 5) (by decide)
              refine (g_aload_n d57_42 rfl rfl).trans ?_
              refine (g_iload_n d57_43 rfl).trans ?_
              refine (g_cV d57_44 k3_125 rfl rfl rfl).trans ?_
              show G 187 0 (some (.ref 1000) :: some (vI 5) :: []) [] (toM ρ τ) _ = _
              refine (g_aload_n d187_0 rfl rfl).trans ?_
              refine (g_cV d187_1 k20_492 rfl rfl rfl).trans ?_
              show G 189 0 (some (.ref 1000) :: []) [] (toM ρ τ) _ = _
              refine (g_gets1 d189_0 rfl).trans ?_
              refine (show _ = _ from rfl : G 189 3 (some (.ref 1000) :: []) (.int 1 :: []) (toM ρ τ) _ = G 189 3 (some (.ref 1000) :: []) [vI 1] (toM ρ τ) _).trans ?_
              refine ((g_if_eq (tgt := 17) d189_3 (by decide)).trans (if_neg (by decide))).trans ?_
              refine (g_aload_n d189_6 rfl rfl).trans ?_
              refine (g_getS (v := vI 0) d189_7 (by decide) rfl).trans ?_
              refine ((g_if_ne (tgt := 17) d189_10 (by decide)).trans (if_pos (by decide))).trans ?_
              refine (j_iconst d189_13).trans ?_
              refine (g_goto (tgt := 18) d189_14 (by decide)).trans ?_
              refine (g_iret d189_18 rfl (by decide)).trans ?_
              show G 187 4 (some (.ref 1000) :: some (vI 5) :: []) [vI 1] (toM ρ τ) _ = _
              refine ((g_if_eq (tgt := 16) d187_4 (by decide)).trans (if_neg (by decide))).trans ?_
              refine (g_aload_n d187_7 rfl rfl).trans ?_
              refine (g_getS (v := .ref 1100) d187_8 (by decide) rfl).trans ?_
              refine (g_iload_n d187_11 rfl).trans ?_
              refine (g_cS d187_12 k20_495 rfl rfl rfl).trans ?_
              show G 191 0 (some (.ref 1100) :: some (vI 5) :: []) [] (toM ρ τ) _ = _
              refine (g_iload_n d191_0 rfl).trans ?_
              refine (g_aload_n d191_1 rfl rfl).trans ?_
              refine (j_alenL (v := 6) d191_2 (by decide) (by decide) (by decide)).trans ?_
              refine (g_cS d191_3 k21_9 rfl rfl rfl).trans ?_
              show G 190 0 (some (vI 5) :: some (vI 6) :: []) [] (toM ρ τ) _ = _
              refine (g_iload_n d190_0 rfl).trans ?_
              refine (g_iload_n d190_1 rfl).trans ?_
              refine (g_gets2 d190_2 rfl).trans ?_
              refine (g_cS d190_5 k20_1059 rfl rfl rfl).trans ?_
              show G 196 0 (some (vI 5) :: some (vI 6) :: some (.ref 1200) :: []) [] (toM ρ τ) _ = _
              refine (g_iload_n d196_0 rfl).trans ?_
              refine ((g_if_lt (tgt := 9) d196_1 (by decide)).trans (if_neg (by decide))).trans ?_
              refine (g_iload_n d196_4 rfl).trans ?_
              refine (g_iload_n d196_5 rfl).trans ?_
              refine ((g_icmp_lt (tgt := 16) d196_6 (by decide)).trans (if_pos (by decide))).trans ?_
              refine (g_iload_n d196_16 rfl).trans ?_
              refine (g_iret d196_17 rfl rfl).trans ?_
              show G 190 8 (some (vI 5) :: some (vI 6) :: []) [vI 5] (toM ρ τ) _ = _
              refine (g_pop d190_8).trans ?_
              refine (g_ret d190_9 rfl).trans ?_
              show G 191 6 (some (.ref 1100) :: some (vI 5) :: []) [] (toM ρ τ) _ = _
              refine (g_aload_n d191_6 rfl rfl).trans ?_
              refine (g_iload_n d191_7 rfl).trans ?_
              refine (j_baloadL (v := 116) d191_8 (by decide) (by decide) (by decide)).trans ?_
              refine (j_sipush d191_9 (by decide)).trans ?_
              refine (j_iandL (v := 116) d191_12 (by decide)).trans ?_
              refine (j_i2cL (v := 116) d191_13 (by decide)).trans ?_
              refine (g_iret d191_14 rfl (by decide)).trans ?_
              show G 187 15 (some (.ref 1000) :: some (vI 5) :: []) [vI 116] (toM ρ τ) _ = _
              refine (g_iret d187_15 rfl (by decide)).trans ?_
              show G 57 47 (some (.ref 5) :: some (.ref 1000) :: some (vI 5) :: []) [vI 116, vI (ρ 37 ((ρ 5 6) + 5))] (toM ρ τ) _ = _
              refine j_icmp_eq (tgt := 52) d57_47 (by decide) (by omega) (by omega) (fun q19 => ?_) (fun q19 => ?_)
              ·
                refine (j_iinc (x := 5) d57_52 rfl (by decide) rfl (lv' := (some (.ref 5) :: some (.ref 1000) :: some (vI 6) :: [])) rfl).trans ?_
                refine (g_goto (tgt := 20) d57_55 (by decide)).trans ?_
                refine (g_iload_n d57_20 rfl).trans ?_
                refine (g_aload_n d57_21 rfl rfl).trans ?_
                refine (g_cV d57_22 k3_121 rfl rfl rfl).trans ?_
                show G 186 0 (some (.ref 1000) :: []) [] (toM ρ τ) _ = _
                refine (g_aload_n d186_0 rfl rfl).trans ?_
                refine (g_getS (v := .ref 1100) d186_1 (by decide) rfl).trans ?_
                refine (j_alenL (v := 6) d186_4 (by decide) (by decide) (by decide)).trans ?_
                refine (g_aload_n d186_5 rfl rfl).trans ?_
                refine (g_cV d186_6 k20_335 rfl rfl rfl).trans ?_
                show G 188 0 (some (.ref 1000) :: []) [] (toM ρ τ) _ = _
                refine (g_gets1 d188_0 rfl).trans ?_
                refine (show _ = _ from rfl : G 188 3 (some (.ref 1000) :: []) (.int 1 :: []) (toM ρ τ) _ = G 188 3 (some (.ref 1000) :: []) [vI 1] (toM ρ τ) _).trans ?_
                refine ((g_if_eq (tgt := 13) d188_3 (by decide)).trans (if_neg (by decide))).trans ?_
                refine (g_aload_n d188_6 rfl rfl).trans ?_
                refine (g_getS (v := vI 0) d188_7 (by decide) rfl).trans ?_
                refine (g_goto (tgt := 14) d188_10 (by decide)).trans ?_
                refine (g_iret d188_14 rfl (by decide)).trans ?_
                show G 186 9 (some (.ref 1000) :: []) [vI 0, vI 6] (toM ρ τ) _ = _
                refine (j_ishrL (v := 6) d186_9 (by decide)).trans ?_
                refine (g_iret d186_10 rfl rfl).trans ?_
                show G 57 25 (some (.ref 5) :: some (.ref 1000) :: some (vI 6) :: []) [vI 6, vI 6] (toM ρ τ) _ = _
                refine ((g_icmp_ge (tgt := 58) d57_25 (by decide)).trans (if_pos (by decide))).trans ?_
                refine (j_iconst d57_58).trans ?_
                exact g_iret d57_59 rfl rfl
              ·
                refine (j_iconst d57_50).trans ?_
                exact g_iret d57_51 rfl rfl
            ·
              refine (j_iconst d57_50).trans ?_
              exact g_iret d57_51 rfl rfl
          ·
            refine (j_iconst d57_50).trans ?_
            exact g_iret d57_51 rfl rfl
        ·
          refine (j_iconst d57_50).trans ?_
          exact g_iret d57_51 rfl rfl
      ·
        refine (j_iconst d57_50).trans ?_
        exact g_iret d57_51 rfl rfl
    ·
      refine (j_iconst d57_50).trans ?_
      exact g_iret d57_51 rfl rfl
  ·
    refine (j_iconst d57_16).trans ?_
    exact g_iret d57_17 rfl rfl
set_option maxRecDepth 10000 in
theorem w57_1 {Q : Option Value → mm → Prop} (ρ : rm) (τ : Int64) (hB : BM ρ) : G 57 0 [some (.ref 5), some (.ref 1001)] [] (toM ρ τ) Q = (if ((ρ 5 4) - (ρ 5 6)) = 6 then (if 0 ≤ ((ρ 5 6) + 0) ∧ ((ρ 5 6) + 0) < 200 then (if (ρ 37 ((ρ 5 6) + 0)) = 98 then (if 0 ≤ ((ρ 5 6) + 1) ∧ ((ρ 5 6) + 1) < 200 then (if (ρ 37 ((ρ 5 6) + 1)) = 101 then (if 0 ≤ ((ρ 5 6) + 2) ∧ ((ρ 5 6) + 2) < 200 then (if (ρ 37 ((ρ 5 6) + 2)) = 104 then (if 0 ≤ ((ρ 5 6) + 3) ∧ ((ρ 5 6) + 3) < 200 then (if (ρ 37 ((ρ 5 6) + 3)) = 105 then (if 0 ≤ ((ρ 5 6) + 4) ∧ ((ρ 5 6) + 4) < 200 then (if (ρ 37 ((ρ 5 6) + 4)) = 110 then (if 0 ≤ ((ρ 5 6) + 5) ∧ ((ρ 5 6) + 5) < 200 then (if (ρ 37 ((ρ 5 6) + 5)) = 100 then Q (some (vI 1)) (toM ρ τ) else Q (some (vI 0)) (toM ρ τ)) else False) else Q (some (vI 0)) (toM ρ τ)) else False) else Q (some (vI 0)) (toM ρ τ)) else False) else Q (some (vI 0)) (toM ρ τ)) else False) else Q (some (vI 0)) (toM ρ τ)) else False) else Q (some (vI 0)) (toM ρ τ)) else False) else Q (some (vI 0)) (toM ρ τ)) := by
  have p1 := hB 5 4 (by decide)
  have p2 := hB 5 6 (by decide)
  refine (g_aload_n d57_0 rfl rfl).trans ?_
  refine (j_getI (v := ρ 5 4) d57_1 f3_38 sh_5 (by decide) rfl rfl).trans ?_
  refine (g_aload_n d57_4 rfl rfl).trans ?_
  refine (j_getI (v := ρ 5 6) d57_5 f3_45 sh_5 (by decide) rfl rfl).trans ?_
  refine (j_isub d57_8).trans ?_
  refine (g_aload_n d57_9 rfl rfl).trans ?_
  refine (g_cV d57_10 k3_121 rfl rfl rfl).trans ?_
  show G 186 0 (some (.ref 1001) :: []) [] (toM ρ τ) _ = _
  refine (g_aload_n d186_0 rfl rfl).trans ?_
  refine (g_getS (v := .ref 1101) d186_1 (by decide) rfl).trans ?_
  refine (j_alenL (v := 6) d186_4 (by decide) (by decide) (by decide)).trans ?_
  refine (g_aload_n d186_5 rfl rfl).trans ?_
  refine (g_cV d186_6 k20_335 rfl rfl rfl).trans ?_
  show G 188 0 (some (.ref 1001) :: []) [] (toM ρ τ) _ = _
  refine (g_gets1 d188_0 rfl).trans ?_
  refine (show _ = _ from rfl : G 188 3 (some (.ref 1001) :: []) (.int 1 :: []) (toM ρ τ) _ = G 188 3 (some (.ref 1001) :: []) [vI 1] (toM ρ τ) _).trans ?_
  refine ((g_if_eq (tgt := 13) d188_3 (by decide)).trans (if_neg (by decide))).trans ?_
  refine (g_aload_n d188_6 rfl rfl).trans ?_
  refine (g_getS (v := vI 0) d188_7 (by decide) rfl).trans ?_
  refine (g_goto (tgt := 14) d188_10 (by decide)).trans ?_
  refine (g_iret d188_14 rfl (by decide)).trans ?_
  show G 186 9 (some (.ref 1001) :: []) [vI 0, vI 6] (toM ρ τ) _ = _
  refine (j_ishrL (v := 6) d186_9 (by decide)).trans ?_
  refine (g_iret d186_10 rfl rfl).trans ?_
  show G 57 13 (some (.ref 5) :: some (.ref 1001) :: []) [vI 6, vI ((ρ 5 4) - (ρ 5 6))] (toM ρ τ) _ = _
  refine j_icmp_eq (tgt := 18) d57_13 (by decide) (by omega) (by omega) (fun q1 => ?_) (fun q1 => ?_)
  ·
    refine (j_iconst d57_18).trans ?_
    refine (g_istore_n d57_19 (by decide) rfl rfl).trans ?_
    refine (g_iload_n d57_20 rfl).trans ?_
    refine (g_aload_n d57_21 rfl rfl).trans ?_
    refine (g_cV d57_22 k3_121 rfl rfl rfl).trans ?_
    show G 186 0 (some (.ref 1001) :: []) [] (toM ρ τ) _ = _
    refine (g_aload_n d186_0 rfl rfl).trans ?_
    refine (g_getS (v := .ref 1101) d186_1 (by decide) rfl).trans ?_
    refine (j_alenL (v := 6) d186_4 (by decide) (by decide) (by decide)).trans ?_
    refine (g_aload_n d186_5 rfl rfl).trans ?_
    refine (g_cV d186_6 k20_335 rfl rfl rfl).trans ?_
    show G 188 0 (some (.ref 1001) :: []) [] (toM ρ τ) _ = _
    refine (g_gets1 d188_0 rfl).trans ?_
    refine (show _ = _ from rfl : G 188 3 (some (.ref 1001) :: []) (.int 1 :: []) (toM ρ τ) _ = G 188 3 (some (.ref 1001) :: []) [vI 1] (toM ρ τ) _).trans ?_
    refine ((g_if_eq (tgt := 13) d188_3 (by decide)).trans (if_neg (by decide))).trans ?_
    refine (g_aload_n d188_6 rfl rfl).trans ?_
    refine (g_getS (v := vI 0) d188_7 (by decide) rfl).trans ?_
    refine (g_goto (tgt := 14) d188_10 (by decide)).trans ?_
    refine (g_iret d188_14 rfl (by decide)).trans ?_
    show G 186 9 (some (.ref 1001) :: []) [vI 0, vI 6] (toM ρ τ) _ = _
    refine (j_ishrL (v := 6) d186_9 (by decide)).trans ?_
    refine (g_iret d186_10 rfl rfl).trans ?_
    show G 57 25 (some (.ref 5) :: some (.ref 1001) :: some (vI 0) :: []) [vI 6, vI 0] (toM ρ τ) _ = _
    refine ((g_icmp_ge (tgt := 58) d57_25 (by decide)).trans (if_neg (by decide))).trans ?_
    refine (g_aload_n d57_28 rfl rfl).trans ?_
    refine (g_getR (q := 4) d57_29 f3_18 sh_5 (by decide) rfl).trans ?_
    refine (g_getR (q := 37) d57_32 f3_88 sh_4 (by decide) rfl).trans ?_
    refine (g_aload_n d57_35 rfl rfl).trans ?_
    refine (j_getI (v := ρ 5 6) d57_36 f3_45 sh_5 (by decide) rfl rfl).trans ?_
    refine (g_iload_n d57_39 rfl).trans ?_
    refine (j_iadd d57_40).trans ?_
    refine j_iaload (v := ρ 37 ((ρ 5 6) + 0)) d57_41 sh_37 (by omega) rfl (fun q2 => ?_)
    have q3 := hB 37 ((ρ 5 6) + 0) (by decide)
    refine (g_aload_n d57_42 rfl rfl).trans ?_
    refine (g_iload_n d57_43 rfl).trans ?_
    refine (g_cV d57_44 k3_125 rfl rfl rfl).trans ?_
    show G 187 0 (some (.ref 1001) :: some (vI 0) :: []) [] (toM ρ τ) _ = _
    refine (g_aload_n d187_0 rfl rfl).trans ?_
    refine (g_cV d187_1 k20_492 rfl rfl rfl).trans ?_
    show G 189 0 (some (.ref 1001) :: []) [] (toM ρ τ) _ = _
    refine (g_gets1 d189_0 rfl).trans ?_
    refine (show _ = _ from rfl : G 189 3 (some (.ref 1001) :: []) (.int 1 :: []) (toM ρ τ) _ = G 189 3 (some (.ref 1001) :: []) [vI 1] (toM ρ τ) _).trans ?_
    refine ((g_if_eq (tgt := 17) d189_3 (by decide)).trans (if_neg (by decide))).trans ?_
    refine (g_aload_n d189_6 rfl rfl).trans ?_
    refine (g_getS (v := vI 0) d189_7 (by decide) rfl).trans ?_
    refine ((g_if_ne (tgt := 17) d189_10 (by decide)).trans (if_pos (by decide))).trans ?_
    refine (j_iconst d189_13).trans ?_
    refine (g_goto (tgt := 18) d189_14 (by decide)).trans ?_
    refine (g_iret d189_18 rfl (by decide)).trans ?_
    show G 187 4 (some (.ref 1001) :: some (vI 0) :: []) [vI 1] (toM ρ τ) _ = _
    refine ((g_if_eq (tgt := 16) d187_4 (by decide)).trans (if_neg (by decide))).trans ?_
    refine (g_aload_n d187_7 rfl rfl).trans ?_
    refine (g_getS (v := .ref 1101) d187_8 (by decide) rfl).trans ?_
    refine (g_iload_n d187_11 rfl).trans ?_
    refine (g_cS d187_12 k20_495 rfl rfl rfl).trans ?_
    show G 191 0 (some (.ref 1101) :: some (vI 0) :: []) [] (toM ρ τ) _ = _
    refine (g_iload_n d191_0 rfl).trans ?_
    refine (g_aload_n d191_1 rfl rfl).trans ?_
    refine (j_alenL (v := 6) d191_2 (by decide) (by decide) (by decide)).trans ?_
    refine (g_cS d191_3 k21_9 rfl rfl rfl).trans ?_
    show G 190 0 (some (vI 0) :: some (vI 6) :: []) [] (toM ρ τ) _ = _
    refine (g_iload_n d190_0 rfl).trans ?_
    refine (g_iload_n d190_1 rfl).trans ?_
    refine (g_gets2 d190_2 rfl).trans ?_
    refine (g_cS d190_5 k20_1059 rfl rfl rfl).trans ?_
    show G 196 0 (some (vI 0) :: some (vI 6) :: some (.ref 1200) :: []) [] (toM ρ τ) _ = _
    refine (g_iload_n d196_0 rfl).trans ?_
    refine ((g_if_lt (tgt := 9) d196_1 (by decide)).trans (if_neg (by decide))).trans ?_
    refine (g_iload_n d196_4 rfl).trans ?_
    refine (g_iload_n d196_5 rfl).trans ?_
    refine ((g_icmp_lt (tgt := 16) d196_6 (by decide)).trans (if_pos (by decide))).trans ?_
    refine (g_iload_n d196_16 rfl).trans ?_
    refine (g_iret d196_17 rfl rfl).trans ?_
    show G 190 8 (some (vI 0) :: some (vI 6) :: []) [vI 0] (toM ρ τ) _ = _
    refine (g_pop d190_8).trans ?_
    refine (g_ret d190_9 rfl).trans ?_
    show G 191 6 (some (.ref 1101) :: some (vI 0) :: []) [] (toM ρ τ) _ = _
    refine (g_aload_n d191_6 rfl rfl).trans ?_
    refine (g_iload_n d191_7 rfl).trans ?_
    refine (j_baloadL (v := 98) d191_8 (by decide) (by decide) (by decide)).trans ?_
    refine (j_sipush d191_9 (by decide)).trans ?_
    refine (j_iandL (v := 98) d191_12 (by decide)).trans ?_
    refine (j_i2cL (v := 98) d191_13 (by decide)).trans ?_
    refine (g_iret d191_14 rfl (by decide)).trans ?_
    show G 187 15 (some (.ref 1001) :: some (vI 0) :: []) [vI 98] (toM ρ τ) _ = _
    refine (g_iret d187_15 rfl (by decide)).trans ?_
    show G 57 47 (some (.ref 5) :: some (.ref 1001) :: some (vI 0) :: []) [vI 98, vI (ρ 37 ((ρ 5 6) + 0))] (toM ρ τ) _ = _
    refine j_icmp_eq (tgt := 52) d57_47 (by decide) (by omega) (by omega) (fun q4 => ?_) (fun q4 => ?_)
    ·
      refine (j_iinc (x := 0) d57_52 rfl (by decide) rfl (lv' := (some (.ref 5) :: some (.ref 1001) :: some (vI 1) :: [])) rfl).trans ?_
      refine (g_goto (tgt := 20) d57_55 (by decide)).trans ?_
      refine (g_iload_n d57_20 rfl).trans ?_
      refine (g_aload_n d57_21 rfl rfl).trans ?_
      refine (g_cV d57_22 k3_121 rfl rfl rfl).trans ?_
      show G 186 0 (some (.ref 1001) :: []) [] (toM ρ τ) _ = _
      refine (g_aload_n d186_0 rfl rfl).trans ?_
      refine (g_getS (v := .ref 1101) d186_1 (by decide) rfl).trans ?_
      refine (j_alenL (v := 6) d186_4 (by decide) (by decide) (by decide)).trans ?_
      refine (g_aload_n d186_5 rfl rfl).trans ?_
      refine (g_cV d186_6 k20_335 rfl rfl rfl).trans ?_
      show G 188 0 (some (.ref 1001) :: []) [] (toM ρ τ) _ = _
      refine (g_gets1 d188_0 rfl).trans ?_
      refine (show _ = _ from rfl : G 188 3 (some (.ref 1001) :: []) (.int 1 :: []) (toM ρ τ) _ = G 188 3 (some (.ref 1001) :: []) [vI 1] (toM ρ τ) _).trans ?_
      refine ((g_if_eq (tgt := 13) d188_3 (by decide)).trans (if_neg (by decide))).trans ?_
      refine (g_aload_n d188_6 rfl rfl).trans ?_
      refine (g_getS (v := vI 0) d188_7 (by decide) rfl).trans ?_
      refine (g_goto (tgt := 14) d188_10 (by decide)).trans ?_
      refine (g_iret d188_14 rfl (by decide)).trans ?_
      show G 186 9 (some (.ref 1001) :: []) [vI 0, vI 6] (toM ρ τ) _ = _
      refine (j_ishrL (v := 6) d186_9 (by decide)).trans ?_
      refine (g_iret d186_10 rfl rfl).trans ?_
      show G 57 25 (some (.ref 5) :: some (.ref 1001) :: some (vI 1) :: []) [vI 6, vI 1] (toM ρ τ) _ = _
      refine ((g_icmp_ge (tgt := 58) d57_25 (by decide)).trans (if_neg (by decide))).trans ?_
      refine (g_aload_n d57_28 rfl rfl).trans ?_
      refine (g_getR (q := 4) d57_29 f3_18 sh_5 (by decide) rfl).trans ?_
      refine (g_getR (q := 37) d57_32 f3_88 sh_4 (by decide) rfl).trans ?_
      refine (g_aload_n d57_35 rfl rfl).trans ?_
      refine (j_getI (v := ρ 5 6) d57_36 f3_45 sh_5 (by decide) rfl rfl).trans ?_
      refine (g_iload_n d57_39 rfl).trans ?_
      refine (j_iadd d57_40).trans ?_
      refine j_iaload (v := ρ 37 ((ρ 5 6) + 1)) d57_41 sh_37 (by omega) rfl (fun q5 => ?_)
      have q6 := hB 37 ((ρ 5 6) + 1) (by decide)
      refine (g_aload_n d57_42 rfl rfl).trans ?_
      refine (g_iload_n d57_43 rfl).trans ?_
      refine (g_cV d57_44 k3_125 rfl rfl rfl).trans ?_
      show G 187 0 (some (.ref 1001) :: some (vI 1) :: []) [] (toM ρ τ) _ = _
      refine (g_aload_n d187_0 rfl rfl).trans ?_
      refine (g_cV d187_1 k20_492 rfl rfl rfl).trans ?_
      show G 189 0 (some (.ref 1001) :: []) [] (toM ρ τ) _ = _
      refine (g_gets1 d189_0 rfl).trans ?_
      refine (show _ = _ from rfl : G 189 3 (some (.ref 1001) :: []) (.int 1 :: []) (toM ρ τ) _ = G 189 3 (some (.ref 1001) :: []) [vI 1] (toM ρ τ) _).trans ?_
      refine ((g_if_eq (tgt := 17) d189_3 (by decide)).trans (if_neg (by decide))).trans ?_
      refine (g_aload_n d189_6 rfl rfl).trans ?_
      refine (g_getS (v := vI 0) d189_7 (by decide) rfl).trans ?_
      refine ((g_if_ne (tgt := 17) d189_10 (by decide)).trans (if_pos (by decide))).trans ?_
      refine (j_iconst d189_13).trans ?_
      refine (g_goto (tgt := 18) d189_14 (by decide)).trans ?_
      refine (g_iret d189_18 rfl (by decide)).trans ?_
      show G 187 4 (some (.ref 1001) :: some (vI 1) :: []) [vI 1] (toM ρ τ) _ = _
      refine ((g_if_eq (tgt := 16) d187_4 (by decide)).trans (if_neg (by decide))).trans ?_
      refine (g_aload_n d187_7 rfl rfl).trans ?_
      refine (g_getS (v := .ref 1101) d187_8 (by decide) rfl).trans ?_
      refine (g_iload_n d187_11 rfl).trans ?_
      refine (g_cS d187_12 k20_495 rfl rfl rfl).trans ?_
      show G 191 0 (some (.ref 1101) :: some (vI 1) :: []) [] (toM ρ τ) _ = _
      refine (g_iload_n d191_0 rfl).trans ?_
      refine (g_aload_n d191_1 rfl rfl).trans ?_
      refine (j_alenL (v := 6) d191_2 (by decide) (by decide) (by decide)).trans ?_
      refine (g_cS d191_3 k21_9 rfl rfl rfl).trans ?_
      show G 190 0 (some (vI 1) :: some (vI 6) :: []) [] (toM ρ τ) _ = _
      refine (g_iload_n d190_0 rfl).trans ?_
      refine (g_iload_n d190_1 rfl).trans ?_
      refine (g_gets2 d190_2 rfl).trans ?_
      refine (g_cS d190_5 k20_1059 rfl rfl rfl).trans ?_
      show G 196 0 (some (vI 1) :: some (vI 6) :: some (.ref 1200) :: []) [] (toM ρ τ) _ = _
      refine (g_iload_n d196_0 rfl).trans ?_
      refine ((g_if_lt (tgt := 9) d196_1 (by decide)).trans (if_neg (by decide))).trans ?_
      refine (g_iload_n d196_4 rfl).trans ?_
      refine (g_iload_n d196_5 rfl).trans ?_
      refine ((g_icmp_lt (tgt := 16) d196_6 (by decide)).trans (if_pos (by decide))).trans ?_
      refine (g_iload_n d196_16 rfl).trans ?_
      refine (g_iret d196_17 rfl rfl).trans ?_
      show G 190 8 (some (vI 1) :: some (vI 6) :: []) [vI 1] (toM ρ τ) _ = _
      refine (g_pop d190_8).trans ?_
      refine (g_ret d190_9 rfl).trans ?_
      show G 191 6 (some (.ref 1101) :: some (vI 1) :: []) [] (toM ρ τ) _ = _
      refine (g_aload_n d191_6 rfl rfl).trans ?_
      refine (g_iload_n d191_7 rfl).trans ?_
      refine (j_baloadL (v := 101) d191_8 (by decide) (by decide) (by decide)).trans ?_
      refine (j_sipush d191_9 (by decide)).trans ?_
      refine (j_iandL (v := 101) d191_12 (by decide)).trans ?_
      refine (j_i2cL (v := 101) d191_13 (by decide)).trans ?_
      refine (g_iret d191_14 rfl (by decide)).trans ?_
      show G 187 15 (some (.ref 1001) :: some (vI 1) :: []) [vI 101] (toM ρ τ) _ = _
      refine (g_iret d187_15 rfl (by decide)).trans ?_
      show G 57 47 (some (.ref 5) :: some (.ref 1001) :: some (vI 1) :: []) [vI 101, vI (ρ 37 ((ρ 5 6) + 1))] (toM ρ τ) _ = _
      refine j_icmp_eq (tgt := 52) d57_47 (by decide) (by omega) (by omega) (fun q7 => ?_) (fun q7 => ?_)
      ·
        refine (j_iinc (x := 1) d57_52 rfl (by decide) rfl (lv' := (some (.ref 5) :: some (.ref 1001) :: some (vI 2) :: [])) rfl).trans ?_
        refine (g_goto (tgt := 20) d57_55 (by decide)).trans ?_
        refine (g_iload_n d57_20 rfl).trans ?_
        refine (g_aload_n d57_21 rfl rfl).trans ?_
        refine (g_cV d57_22 k3_121 rfl rfl rfl).trans ?_
        show G 186 0 (some (.ref 1001) :: []) [] (toM ρ τ) _ = _
        refine (g_aload_n d186_0 rfl rfl).trans ?_
        refine (g_getS (v := .ref 1101) d186_1 (by decide) rfl).trans ?_
        refine (j_alenL (v := 6) d186_4 (by decide) (by decide) (by decide)).trans ?_
        refine (g_aload_n d186_5 rfl rfl).trans ?_
        refine (g_cV d186_6 k20_335 rfl rfl rfl).trans ?_
        show G 188 0 (some (.ref 1001) :: []) [] (toM ρ τ) _ = _
        refine (g_gets1 d188_0 rfl).trans ?_
        refine (show _ = _ from rfl : G 188 3 (some (.ref 1001) :: []) (.int 1 :: []) (toM ρ τ) _ = G 188 3 (some (.ref 1001) :: []) [vI 1] (toM ρ τ) _).trans ?_
        refine ((g_if_eq (tgt := 13) d188_3 (by decide)).trans (if_neg (by decide))).trans ?_
        refine (g_aload_n d188_6 rfl rfl).trans ?_
        refine (g_getS (v := vI 0) d188_7 (by decide) rfl).trans ?_
        refine (g_goto (tgt := 14) d188_10 (by decide)).trans ?_
        refine (g_iret d188_14 rfl (by decide)).trans ?_
        show G 186 9 (some (.ref 1001) :: []) [vI 0, vI 6] (toM ρ τ) _ = _
        refine (j_ishrL (v := 6) d186_9 (by decide)).trans ?_
        refine (g_iret d186_10 rfl rfl).trans ?_
        show G 57 25 (some (.ref 5) :: some (.ref 1001) :: some (vI 2) :: []) [vI 6, vI 2] (toM ρ τ) _ = _
        refine ((g_icmp_ge (tgt := 58) d57_25 (by decide)).trans (if_neg (by decide))).trans ?_
        refine (g_aload_n d57_28 rfl rfl).trans ?_
        refine (g_getR (q := 4) d57_29 f3_18 sh_5 (by decide) rfl).trans ?_
        refine (g_getR (q := 37) d57_32 f3_88 sh_4 (by decide) rfl).trans ?_
        refine (g_aload_n d57_35 rfl rfl).trans ?_
        refine (j_getI (v := ρ 5 6) d57_36 f3_45 sh_5 (by decide) rfl rfl).trans ?_
        refine (g_iload_n d57_39 rfl).trans ?_
        refine (j_iadd d57_40).trans ?_
        refine j_iaload (v := ρ 37 ((ρ 5 6) + 2)) d57_41 sh_37 (by omega) rfl (fun q8 => ?_)
        have q9 := hB 37 ((ρ 5 6) + 2) (by decide)
        refine (g_aload_n d57_42 rfl rfl).trans ?_
        refine (g_iload_n d57_43 rfl).trans ?_
        refine (g_cV d57_44 k3_125 rfl rfl rfl).trans ?_
        show G 187 0 (some (.ref 1001) :: some (vI 2) :: []) [] (toM ρ τ) _ = _
        refine (g_aload_n d187_0 rfl rfl).trans ?_
        refine (g_cV d187_1 k20_492 rfl rfl rfl).trans ?_
        show G 189 0 (some (.ref 1001) :: []) [] (toM ρ τ) _ = _
        refine (g_gets1 d189_0 rfl).trans ?_
        refine (show _ = _ from rfl : G 189 3 (some (.ref 1001) :: []) (.int 1 :: []) (toM ρ τ) _ = G 189 3 (some (.ref 1001) :: []) [vI 1] (toM ρ τ) _).trans ?_
        refine ((g_if_eq (tgt := 17) d189_3 (by decide)).trans (if_neg (by decide))).trans ?_
        refine (g_aload_n d189_6 rfl rfl).trans ?_
        refine (g_getS (v := vI 0) d189_7 (by decide) rfl).trans ?_
        refine ((g_if_ne (tgt := 17) d189_10 (by decide)).trans (if_pos (by decide))).trans ?_
        refine (j_iconst d189_13).trans ?_
        refine (g_goto (tgt := 18) d189_14 (by decide)).trans ?_
        refine (g_iret d189_18 rfl (by decide)).trans ?_
        show G 187 4 (some (.ref 1001) :: some (vI 2) :: []) [vI 1] (toM ρ τ) _ = _
        refine ((g_if_eq (tgt := 16) d187_4 (by decide)).trans (if_neg (by decide))).trans ?_
        refine (g_aload_n d187_7 rfl rfl).trans ?_
        refine (g_getS (v := .ref 1101) d187_8 (by decide) rfl).trans ?_
        refine (g_iload_n d187_11 rfl).trans ?_
        refine (g_cS d187_12 k20_495 rfl rfl rfl).trans ?_
        show G 191 0 (some (.ref 1101) :: some (vI 2) :: []) [] (toM ρ τ) _ = _
        refine (g_iload_n d191_0 rfl).trans ?_
        refine (g_aload_n d191_1 rfl rfl).trans ?_
        refine (j_alenL (v := 6) d191_2 (by decide) (by decide) (by decide)).trans ?_
        refine (g_cS d191_3 k21_9 rfl rfl rfl).trans ?_
        show G 190 0 (some (vI 2) :: some (vI 6) :: []) [] (toM ρ τ) _ = _
        refine (g_iload_n d190_0 rfl).trans ?_
        refine (g_iload_n d190_1 rfl).trans ?_
        refine (g_gets2 d190_2 rfl).trans ?_
        refine (g_cS d190_5 k20_1059 rfl rfl rfl).trans ?_
        show G 196 0 (some (vI 2) :: some (vI 6) :: some (.ref 1200) :: []) [] (toM ρ τ) _ = _
        refine (g_iload_n d196_0 rfl).trans ?_
        refine ((g_if_lt (tgt := 9) d196_1 (by decide)).trans (if_neg (by decide))).trans ?_
        refine (g_iload_n d196_4 rfl).trans ?_
        refine (g_iload_n d196_5 rfl).trans ?_
        refine ((g_icmp_lt (tgt := 16) d196_6 (by decide)).trans (if_pos (by decide))).trans ?_
        refine (g_iload_n d196_16 rfl).trans ?_
        refine (g_iret d196_17 rfl rfl).trans ?_
        show G 190 8 (some (vI 2) :: some (vI 6) :: []) [vI 2] (toM ρ τ) _ = _
        refine (g_pop d190_8).trans ?_
        refine (g_ret d190_9 rfl).trans ?_
        show G 191 6 (some (.ref 1101) :: some (vI 2) :: []) [] (toM ρ τ) _ = _
        refine (g_aload_n d191_6 rfl rfl).trans ?_
        refine (g_iload_n d191_7 rfl).trans ?_
        refine (j_baloadL (v := 104) d191_8 (by decide) (by decide) (by decide)).trans ?_
        refine (j_sipush d191_9 (by decide)).trans ?_
        refine (j_iandL (v := 104) d191_12 (by decide)).trans ?_
        refine (j_i2cL (v := 104) d191_13 (by decide)).trans ?_
        refine (g_iret d191_14 rfl (by decide)).trans ?_
        show G 187 15 (some (.ref 1001) :: some (vI 2) :: []) [vI 104] (toM ρ τ) _ = _
        refine (g_iret d187_15 rfl (by decide)).trans ?_
        show G 57 47 (some (.ref 5) :: some (.ref 1001) :: some (vI 2) :: []) [vI 104, vI (ρ 37 ((ρ 5 6) + 2))] (toM ρ τ) _ = _
        refine j_icmp_eq (tgt := 52) d57_47 (by decide) (by omega) (by omega) (fun q10 => ?_) (fun q10 => ?_)
        ·
          refine (j_iinc (x := 2) d57_52 rfl (by decide) rfl (lv' := (some (.ref 5) :: some (.ref 1001) :: some (vI 3) :: [])) rfl).trans ?_
          refine (g_goto (tgt := 20) d57_55 (by decide)).trans ?_
          refine (g_iload_n d57_20 rfl).trans ?_
          refine (g_aload_n d57_21 rfl rfl).trans ?_
          refine (g_cV d57_22 k3_121 rfl rfl rfl).trans ?_
          show G 186 0 (some (.ref 1001) :: []) [] (toM ρ τ) _ = _
          refine (g_aload_n d186_0 rfl rfl).trans ?_
          refine (g_getS (v := .ref 1101) d186_1 (by decide) rfl).trans ?_
          refine (j_alenL (v := 6) d186_4 (by decide) (by decide) (by decide)).trans ?_
          refine (g_aload_n d186_5 rfl rfl).trans ?_
          refine (g_cV d186_6 k20_335 rfl rfl rfl).trans ?_
          show G 188 0 (some (.ref 1001) :: []) [] (toM ρ τ) _ = _
          refine (g_gets1 d188_0 rfl).trans ?_
          refine (show _ = _ from rfl : G 188 3 (some (.ref 1001) :: []) (.int 1 :: []) (toM ρ τ) _ = G 188 3 (some (.ref 1001) :: []) [vI 1] (toM ρ τ) _).trans ?_
          refine ((g_if_eq (tgt := 13) d188_3 (by decide)).trans (if_neg (by decide))).trans ?_
          refine (g_aload_n d188_6 rfl rfl).trans ?_
          refine (g_getS (v := vI 0) d188_7 (by decide) rfl).trans ?_
          refine (g_goto (tgt := 14) d188_10 (by decide)).trans ?_
          refine (g_iret d188_14 rfl (by decide)).trans ?_
          show G 186 9 (some (.ref 1001) :: []) [vI 0, vI 6] (toM ρ τ) _ = _
          refine (j_ishrL (v := 6) d186_9 (by decide)).trans ?_
          refine (g_iret d186_10 rfl rfl).trans ?_
          show G 57 25 (some (.ref 5) :: some (.ref 1001) :: some (vI 3) :: []) [vI 6, vI 3] (toM ρ τ) _ = _
          refine ((g_icmp_ge (tgt := 58) d57_25 (by decide)).trans (if_neg (by decide))).trans ?_
          refine (g_aload_n d57_28 rfl rfl).trans ?_
          refine (g_getR (q := 4) d57_29 f3_18 sh_5 (by decide) rfl).trans ?_
          refine (g_getR (q := 37) d57_32 f3_88 sh_4 (by decide) rfl).trans ?_
          refine (g_aload_n d57_35 rfl rfl).trans ?_
          refine (j_getI (v := ρ 5 6) d57_36 f3_45 sh_5 (by decide) rfl rfl).trans ?_
          refine (g_iload_n d57_39 rfl).trans ?_
          refine (j_iadd d57_40).trans ?_
          refine j_iaload (v := ρ 37 ((ρ 5 6) + 3)) d57_41 sh_37 (by omega) rfl (fun q11 => ?_)
          have q12 := hB 37 ((ρ 5 6) + 3) (by decide)
          refine (g_aload_n d57_42 rfl rfl).trans ?_
          refine (g_iload_n d57_43 rfl).trans ?_
          refine (g_cV d57_44 k3_125 rfl rfl rfl).trans ?_
          show G 187 0 (some (.ref 1001) :: some (vI 3) :: []) [] (toM ρ τ) _ = _
          refine (g_aload_n d187_0 rfl rfl).trans ?_
          refine (g_cV d187_1 k20_492 rfl rfl rfl).trans ?_
          show G 189 0 (some (.ref 1001) :: []) [] (toM ρ τ) _ = _
          refine (g_gets1 d189_0 rfl).trans ?_
          refine (show _ = _ from rfl : G 189 3 (some (.ref 1001) :: []) (.int 1 :: []) (toM ρ τ) _ = G 189 3 (some (.ref 1001) :: []) [vI 1] (toM ρ τ) _).trans ?_
          refine ((g_if_eq (tgt := 17) d189_3 (by decide)).trans (if_neg (by decide))).trans ?_
          refine (g_aload_n d189_6 rfl rfl).trans ?_
          refine (g_getS (v := vI 0) d189_7 (by decide) rfl).trans ?_
          refine ((g_if_ne (tgt := 17) d189_10 (by decide)).trans (if_pos (by decide))).trans ?_
          refine (j_iconst d189_13).trans ?_
          refine (g_goto (tgt := 18) d189_14 (by decide)).trans ?_
          refine (g_iret d189_18 rfl (by decide)).trans ?_
          show G 187 4 (some (.ref 1001) :: some (vI 3) :: []) [vI 1] (toM ρ τ) _ = _
          refine ((g_if_eq (tgt := 16) d187_4 (by decide)).trans (if_neg (by decide))).trans ?_
          refine (g_aload_n d187_7 rfl rfl).trans ?_
          refine (g_getS (v := .ref 1101) d187_8 (by decide) rfl).trans ?_
          refine (g_iload_n d187_11 rfl).trans ?_
          refine (g_cS d187_12 k20_495 rfl rfl rfl).trans ?_
          show G 191 0 (some (.ref 1101) :: some (vI 3) :: []) [] (toM ρ τ) _ = _
          refine (g_iload_n d191_0 rfl).trans ?_
          refine (g_aload_n d191_1 rfl rfl).trans ?_
          refine (j_alenL (v := 6) d191_2 (by decide) (by decide) (by decide)).trans ?_
          refine (g_cS d191_3 k21_9 rfl rfl rfl).trans ?_
          show G 190 0 (some (vI 3) :: some (vI 6) :: []) [] (toM ρ τ) _ = _
          refine (g_iload_n d190_0 rfl).trans ?_
          refine (g_iload_n d190_1 rfl).trans ?_
          refine (g_gets2 d190_2 rfl).trans ?_
          refine (g_cS d190_5 k20_1059 rfl rfl rfl).trans ?_
          show G 196 0 (some (vI 3) :: some (vI 6) :: some (.ref 1200) :: []) [] (toM ρ τ) _ = _
          refine (g_iload_n d196_0 rfl).trans ?_
          refine ((g_if_lt (tgt := 9) d196_1 (by decide)).trans (if_neg (by decide))).trans ?_
          refine (g_iload_n d196_4 rfl).trans ?_
          refine (g_iload_n d196_5 rfl).trans ?_
          refine ((g_icmp_lt (tgt := 16) d196_6 (by decide)).trans (if_pos (by decide))).trans ?_
          refine (g_iload_n d196_16 rfl).trans ?_
          refine (g_iret d196_17 rfl rfl).trans ?_
          show G 190 8 (some (vI 3) :: some (vI 6) :: []) [vI 3] (toM ρ τ) _ = _
          refine (g_pop d190_8).trans ?_
          refine (g_ret d190_9 rfl).trans ?_
          show G 191 6 (some (.ref 1101) :: some (vI 3) :: []) [] (toM ρ τ) _ = _
          refine (g_aload_n d191_6 rfl rfl).trans ?_
          refine (g_iload_n d191_7 rfl).trans ?_
          refine (j_baloadL (v := 105) d191_8 (by decide) (by decide) (by decide)).trans ?_
          refine (j_sipush d191_9 (by decide)).trans ?_
          refine (j_iandL (v := 105) d191_12 (by decide)).trans ?_
          refine (j_i2cL (v := 105) d191_13 (by decide)).trans ?_
          refine (g_iret d191_14 rfl (by decide)).trans ?_
          show G 187 15 (some (.ref 1001) :: some (vI 3) :: []) [vI 105] (toM ρ τ) _ = _
          refine (g_iret d187_15 rfl (by decide)).trans ?_
          show G 57 47 (some (.ref 5) :: some (.ref 1001) :: some (vI 3) :: []) [vI 105, vI (ρ 37 ((ρ 5 6) + 3))] (toM ρ τ) _ = _
          refine j_icmp_eq (tgt := 52) d57_47 (by decide) (by omega) (by omega) (fun q13 => ?_) (fun q13 => ?_)
          ·
            refine (j_iinc (x := 3) d57_52 rfl (by decide) rfl (lv' := (some (.ref 5) :: some (.ref 1001) :: some (vI 4) :: [])) rfl).trans ?_
            refine (g_goto (tgt := 20) d57_55 (by decide)).trans ?_
            refine (g_iload_n d57_20 rfl).trans ?_
            refine (g_aload_n d57_21 rfl rfl).trans ?_
            refine (g_cV d57_22 k3_121 rfl rfl rfl).trans ?_
            show G 186 0 (some (.ref 1001) :: []) [] (toM ρ τ) _ = _
            refine (g_aload_n d186_0 rfl rfl).trans ?_
            refine (g_getS (v := .ref 1101) d186_1 (by decide) rfl).trans ?_
            refine (j_alenL (v := 6) d186_4 (by decide) (by decide) (by decide)).trans ?_
            refine (g_aload_n d186_5 rfl rfl).trans ?_
            refine (g_cV d186_6 k20_335 rfl rfl rfl).trans ?_
            show G 188 0 (some (.ref 1001) :: []) [] (toM ρ τ) _ = _
            refine (g_gets1 d188_0 rfl).trans ?_
            refine (show _ = _ from rfl : G 188 3 (some (.ref 1001) :: []) (.int 1 :: []) (toM ρ τ) _ = G 188 3 (some (.ref 1001) :: []) [vI 1] (toM ρ τ) _).trans ?_
            refine ((g_if_eq (tgt := 13) d188_3 (by decide)).trans (if_neg (by decide))).trans ?_
            refine (g_aload_n d188_6 rfl rfl).trans ?_
            refine (g_getS (v := vI 0) d188_7 (by decide) rfl).trans ?_
            refine (g_goto (tgt := 14) d188_10 (by decide)).trans ?_
            refine (g_iret d188_14 rfl (by decide)).trans ?_
            show G 186 9 (some (.ref 1001) :: []) [vI 0, vI 6] (toM ρ τ) _ = _
            refine (j_ishrL (v := 6) d186_9 (by decide)).trans ?_
            refine (g_iret d186_10 rfl rfl).trans ?_
            show G 57 25 (some (.ref 5) :: some (.ref 1001) :: some (vI 4) :: []) [vI 6, vI 4] (toM ρ τ) _ = _
            refine ((g_icmp_ge (tgt := 58) d57_25 (by decide)).trans (if_neg (by decide))).trans ?_
            refine (g_aload_n d57_28 rfl rfl).trans ?_
            refine (g_getR (q := 4) d57_29 f3_18 sh_5 (by decide) rfl).trans ?_
            refine (g_getR (q := 37) d57_32 f3_88 sh_4 (by decide) rfl).trans ?_
            refine (g_aload_n d57_35 rfl rfl).trans ?_
            refine (j_getI (v := ρ 5 6) d57_36 f3_45 sh_5 (by decide) rfl rfl).trans ?_
            refine (g_iload_n d57_39 rfl).trans ?_
            refine (j_iadd d57_40).trans ?_
            refine j_iaload (v := ρ 37 ((ρ 5 6) + 4)) d57_41 sh_37 (by omega) rfl (fun q14 => ?_)
            have q15 := hB 37 ((ρ 5 6) + 4) (by decide)
            refine (g_aload_n d57_42 rfl rfl).trans ?_
            refine (g_iload_n d57_43 rfl).trans ?_
            refine (g_cV d57_44 k3_125 rfl rfl rfl).trans ?_
            show G 187 0 (some (.ref 1001) :: some (vI 4) :: []) [] (toM ρ τ) _ = _
            refine (g_aload_n d187_0 rfl rfl).trans ?_
            refine (g_cV d187_1 k20_492 rfl rfl rfl).trans ?_
            show G 189 0 (some (.ref 1001) :: []) [] (toM ρ τ) _ = _
            refine (g_gets1 d189_0 rfl).trans ?_
            refine (show _ = _ from rfl : G 189 3 (some (.ref 1001) :: []) (.int 1 :: []) (toM ρ τ) _ = G 189 3 (some (.ref 1001) :: []) [vI 1] (toM ρ τ) _).trans ?_
            refine ((g_if_eq (tgt := 17) d189_3 (by decide)).trans (if_neg (by decide))).trans ?_
            refine (g_aload_n d189_6 rfl rfl).trans ?_
            refine (g_getS (v := vI 0) d189_7 (by decide) rfl).trans ?_
            refine ((g_if_ne (tgt := 17) d189_10 (by decide)).trans (if_pos (by decide))).trans ?_
            refine (j_iconst d189_13).trans ?_
            refine (g_goto (tgt := 18) d189_14 (by decide)).trans ?_
            refine (g_iret d189_18 rfl (by decide)).trans ?_
            show G 187 4 (some (.ref 1001) :: some (vI 4) :: []) [vI 1] (toM ρ τ) _ = _
            refine ((g_if_eq (tgt := 16) d187_4 (by decide)).trans (if_neg (by decide))).trans ?_
            refine (g_aload_n d187_7 rfl rfl).trans ?_
            refine (g_getS (v := .ref 1101) d187_8 (by decide) rfl).trans ?_
            refine (g_iload_n d187_11 rfl).trans ?_
            refine (g_cS d187_12 k20_495 rfl rfl rfl).trans ?_
            show G 191 0 (some (.ref 1101) :: some (vI 4) :: []) [] (toM ρ τ) _ = _
            refine (g_iload_n d191_0 rfl).trans ?_
            refine (g_aload_n d191_1 rfl rfl).trans ?_
            refine (j_alenL (v := 6) d191_2 (by decide) (by decide) (by decide)).trans ?_
            refine (g_cS d191_3 k21_9 rfl rfl rfl).trans ?_
            show G 190 0 (some (vI 4) :: some (vI 6) :: []) [] (toM ρ τ) _ = _
            refine (g_iload_n d190_0 rfl).trans ?_
            refine (g_iload_n d190_1 rfl).trans ?_
            refine (g_gets2 d190_2 rfl).trans ?_
            refine (g_cS d190_5 k20_1059 rfl rfl rfl).trans ?_
            show G 196 0 (some (vI 4) :: some (vI 6) :: some (.ref 1200) :: []) [] (toM ρ τ) _ = _
            refine (g_iload_n d196_0 rfl).trans ?_
            refine ((g_if_lt (tgt := 9) d196_1 (by decide)).trans (if_neg (by decide))).trans ?_
            refine (g_iload_n d196_4 rfl).trans ?_
            refine (g_iload_n d196_5 rfl).trans ?_
            refine ((g_icmp_lt (tgt := 16) d196_6 (by decide)).trans (if_pos (by decide))).trans ?_
            refine (g_iload_n d196_16 rfl).trans ?_
            refine (g_iret d196_17 rfl rfl).trans ?_
            show G 190 8 (some (vI 4) :: some (vI 6) :: []) [vI 4] (toM ρ τ) _ = _
            refine (g_pop d190_8).trans ?_
            refine (g_ret d190_9 rfl).trans ?_
            show G 191 6 (some (.ref 1101) :: some (vI 4) :: []) [] (toM ρ τ) _ = _
            refine (g_aload_n d191_6 rfl rfl).trans ?_
            refine (g_iload_n d191_7 rfl).trans ?_
            refine (j_baloadL (v := 110) d191_8 (by decide) (by decide) (by decide)).trans ?_
            refine (j_sipush d191_9 (by decide)).trans ?_
            refine (j_iandL (v := 110) d191_12 (by decide)).trans ?_
            refine (j_i2cL (v := 110) d191_13 (by decide)).trans ?_
            refine (g_iret d191_14 rfl (by decide)).trans ?_
            show G 187 15 (some (.ref 1001) :: some (vI 4) :: []) [vI 110] (toM ρ τ) _ = _
            refine (g_iret d187_15 rfl (by decide)).trans ?_
            show G 57 47 (some (.ref 5) :: some (.ref 1001) :: some (vI 4) :: []) [vI 110, vI (ρ 37 ((ρ 5 6) + 4))] (toM ρ τ) _ = _
            refine j_icmp_eq (tgt := 52) d57_47 (by decide) (by omega) (by omega) (fun q16 => ?_) (fun q16 => ?_)
            ·
              refine (j_iinc (x := 4) d57_52 rfl (by decide) rfl (lv' := (some (.ref 5) :: some (.ref 1001) :: some (vI 5) :: [])) rfl).trans ?_
              refine (g_goto (tgt := 20) d57_55 (by decide)).trans ?_
              refine (g_iload_n d57_20 rfl).trans ?_
              refine (g_aload_n d57_21 rfl rfl).trans ?_
              refine (g_cV d57_22 k3_121 rfl rfl rfl).trans ?_
              show G 186 0 (some (.ref 1001) :: []) [] (toM ρ τ) _ = _
              refine (g_aload_n d186_0 rfl rfl).trans ?_
              refine (g_getS (v := .ref 1101) d186_1 (by decide) rfl).trans ?_
              refine (j_alenL (v := 6) d186_4 (by decide) (by decide) (by decide)).trans ?_
              refine (g_aload_n d186_5 rfl rfl).trans ?_
              refine (g_cV d186_6 k20_335 rfl rfl rfl).trans ?_
              show G 188 0 (some (.ref 1001) :: []) [] (toM ρ τ) _ = _
              refine (g_gets1 d188_0 rfl).trans ?_
              refine (show _ = _ from rfl : G 188 3 (some (.ref 1001) :: []) (.int 1 :: []) (toM ρ τ) _ = G 188 3 (some (.ref 1001) :: []) [vI 1] (toM ρ τ) _).trans ?_
              refine ((g_if_eq (tgt := 13) d188_3 (by decide)).trans (if_neg (by decide))).trans ?_
              refine (g_aload_n d188_6 rfl rfl).trans ?_
              refine (g_getS (v := vI 0) d188_7 (by decide) rfl).trans ?_
              refine (g_goto (tgt := 14) d188_10 (by decide)).trans ?_
              refine (g_iret d188_14 rfl (by decide)).trans ?_
              show G 186 9 (some (.ref 1001) :: []) [vI 0, vI 6] (toM ρ τ) _ = _
              refine (j_ishrL (v := 6) d186_9 (by decide)).trans ?_
              refine (g_iret d186_10 rfl rfl).trans ?_
              show G 57 25 (some (.ref 5) :: some (.ref 1001) :: some (vI 5) :: []) [vI 6, vI 5] (toM ρ τ) _ = _
              refine ((g_icmp_ge (tgt := 58) d57_25 (by decide)).trans (if_neg (by decide))).trans ?_
              refine (g_aload_n d57_28 rfl rfl).trans ?_
              refine (g_getR (q := 4) d57_29 f3_18 sh_5 (by decide) rfl).trans ?_
              refine (g_getR (q := 37) d57_32 f3_88 sh_4 (by decide) rfl).trans ?_
              refine (g_aload_n d57_35 rfl rfl).trans ?_
              refine (j_getI (v := ρ 5 6) d57_36 f3_45 sh_5 (by decide) rfl rfl).trans ?_
              refine (g_iload_n d57_39 rfl).trans ?_
              refine (j_iadd d57_40).trans ?_
              refine j_iaload (v := ρ 37 ((ρ 5 6) + 5)) d57_41 sh_37 (by omega) rfl (fun q17 => ?_)
              have q18 := hB 37 ((ρ 5 6) + 5) (by decide)
              refine (g_aload_n d57_42 rfl rfl).trans ?_
              refine (g_iload_n d57_43 rfl).trans ?_
              refine (g_cV d57_44 k3_125 rfl rfl rfl).trans ?_
              show G 187 0 (some (.ref 1001) :: some (vI 5) :: []) [] (toM ρ τ) _ = _
              refine (g_aload_n d187_0 rfl rfl).trans ?_
              refine (g_cV d187_1 k20_492 rfl rfl rfl).trans ?_
              show G 189 0 (some (.ref 1001) :: []) [] (toM ρ τ) _ = _
              refine (g_gets1 d189_0 rfl).trans ?_
              refine (show _ = _ from rfl : G 189 3 (some (.ref 1001) :: []) (.int 1 :: []) (toM ρ τ) _ = G 189 3 (some (.ref 1001) :: []) [vI 1] (toM ρ τ) _).trans ?_
              refine ((g_if_eq (tgt := 17) d189_3 (by decide)).trans (if_neg (by decide))).trans ?_
              refine (g_aload_n d189_6 rfl rfl).trans ?_
              refine (g_getS (v := vI 0) d189_7 (by decide) rfl).trans ?_
              refine ((g_if_ne (tgt := 17) d189_10 (by decide)).trans (if_pos (by decide))).trans ?_
              refine (j_iconst d189_13).trans ?_
              refine (g_goto (tgt := 18) d189_14 (by decide)).trans ?_
              refine (g_iret d189_18 rfl (by decide)).trans ?_
              show G 187 4 (some (.ref 1001) :: some (vI 5) :: []) [vI 1] (toM ρ τ) _ = _
              refine ((g_if_eq (tgt := 16) d187_4 (by decide)).trans (if_neg (by decide))).trans ?_
              refine (g_aload_n d187_7 rfl rfl).trans ?_
              refine (g_getS (v := .ref 1101) d187_8 (by decide) rfl).trans ?_
              refine (g_iload_n d187_11 rfl).trans ?_
              refine (g_cS d187_12 k20_495 rfl rfl rfl).trans ?_
              show G 191 0 (some (.ref 1101) :: some (vI 5) :: []) [] (toM ρ τ) _ = _
              refine (g_iload_n d191_0 rfl).trans ?_
              refine (g_aload_n d191_1 rfl rfl).trans ?_
              refine (j_alenL (v := 6) d191_2 (by decide) (by decide) (by decide)).trans ?_
              refine (g_cS d191_3 k21_9 rfl rfl rfl).trans ?_
              show G 190 0 (some (vI 5) :: some (vI 6) :: []) [] (toM ρ τ) _ = _
              refine (g_iload_n d190_0 rfl).trans ?_
              refine (g_iload_n d190_1 rfl).trans ?_
              refine (g_gets2 d190_2 rfl).trans ?_
              refine (g_cS d190_5 k20_1059 rfl rfl rfl).trans ?_
              show G 196 0 (some (vI 5) :: some (vI 6) :: some (.ref 1200) :: []) [] (toM ρ τ) _ = _
              refine (g_iload_n d196_0 rfl).trans ?_
              refine ((g_if_lt (tgt := 9) d196_1 (by decide)).trans (if_neg (by decide))).trans ?_
              refine (g_iload_n d196_4 rfl).trans ?_
              refine (g_iload_n d196_5 rfl).trans ?_
              refine ((g_icmp_lt (tgt := 16) d196_6 (by decide)).trans (if_pos (by decide))).trans ?_
              refine (g_iload_n d196_16 rfl).trans ?_
              refine (g_iret d196_17 rfl rfl).trans ?_
              show G 190 8 (some (vI 5) :: some (vI 6) :: []) [vI 5] (toM ρ τ) _ = _
              refine (g_pop d190_8).trans ?_
              refine (g_ret d190_9 rfl).trans ?_
              show G 191 6 (some (.ref 1101) :: some (vI 5) :: []) [] (toM ρ τ) _ = _
              refine (g_aload_n d191_6 rfl rfl).trans ?_
              refine (g_iload_n d191_7 rfl).trans ?_
              refine (j_baloadL (v := 100) d191_8 (by decide) (by decide) (by decide)).trans ?_
              refine (j_sipush d191_9 (by decide)).trans ?_
              refine (j_iandL (v := 100) d191_12 (by decide)).trans ?_
              refine (j_i2cL (v := 100) d191_13 (by decide)).trans ?_
              refine (g_iret d191_14 rfl (by decide)).trans ?_
              show G 187 15 (some (.ref 1001) :: some (vI 5) :: []) [vI 100] (toM ρ τ) _ = _
              refine (g_iret d187_15 rfl (by decide)).trans ?_
              show G 57 47 (some (.ref 5) :: some (.ref 1001) :: some (vI 5) :: []) [vI 100, vI (ρ 37 ((ρ 5 6) + 5))] (toM ρ τ) _ = _
              refine j_icmp_eq (tgt := 52) d57_47 (by decide) (by omega) (by omega) (fun q19 => ?_) (fun q19 => ?_)
              ·
                refine (j_iinc (x := 5) d57_52 rfl (by decide) rfl (lv' := (some (.ref 5) :: some (.ref 1001) :: some (vI 6) :: [])) rfl).trans ?_
                refine (g_goto (tgt := 20) d57_55 (by decide)).trans ?_
                refine (g_iload_n d57_20 rfl).trans ?_
                refine (g_aload_n d57_21 rfl rfl).trans ?_
                refine (g_cV d57_22 k3_121 rfl rfl rfl).trans ?_
                show G 186 0 (some (.ref 1001) :: []) [] (toM ρ τ) _ = _
                refine (g_aload_n d186_0 rfl rfl).trans ?_
                refine (g_getS (v := .ref 1101) d186_1 (by decide) rfl).trans ?_
                refine (j_alenL (v := 6) d186_4 (by decide) (by decide) (by decide)).trans ?_
                refine (g_aload_n d186_5 rfl rfl).trans ?_
                refine (g_cV d186_6 k20_335 rfl rfl rfl).trans ?_
                show G 188 0 (some (.ref 1001) :: []) [] (toM ρ τ) _ = _
                refine (g_gets1 d188_0 rfl).trans ?_
                refine (show _ = _ from rfl : G 188 3 (some (.ref 1001) :: []) (.int 1 :: []) (toM ρ τ) _ = G 188 3 (some (.ref 1001) :: []) [vI 1] (toM ρ τ) _).trans ?_
                refine ((g_if_eq (tgt := 13) d188_3 (by decide)).trans (if_neg (by decide))).trans ?_
                refine (g_aload_n d188_6 rfl rfl).trans ?_
                refine (g_getS (v := vI 0) d188_7 (by decide) rfl).trans ?_
                refine (g_goto (tgt := 14) d188_10 (by decide)).trans ?_
                refine (g_iret d188_14 rfl (by decide)).trans ?_
                show G 186 9 (some (.ref 1001) :: []) [vI 0, vI 6] (toM ρ τ) _ = _
                refine (j_ishrL (v := 6) d186_9 (by decide)).trans ?_
                refine (g_iret d186_10 rfl rfl).trans ?_
                show G 57 25 (some (.ref 5) :: some (.ref 1001) :: some (vI 6) :: []) [vI 6, vI 6] (toM ρ τ) _ = _
                refine ((g_icmp_ge (tgt := 58) d57_25 (by decide)).trans (if_pos (by decide))).trans ?_
                refine (j_iconst d57_58).trans ?_
                exact g_iret d57_59 rfl rfl
              ·
                refine (j_iconst d57_50).trans ?_
                exact g_iret d57_51 rfl rfl
            ·
              refine (j_iconst d57_50).trans ?_
              exact g_iret d57_51 rfl rfl
          ·
            refine (j_iconst d57_50).trans ?_
            exact g_iret d57_51 rfl rfl
        ·
          refine (j_iconst d57_50).trans ?_
          exact g_iret d57_51 rfl rfl
      ·
        refine (j_iconst d57_50).trans ?_
        exact g_iret d57_51 rfl rfl
    ·
      refine (j_iconst d57_50).trans ?_
      exact g_iret d57_51 rfl rfl
  ·
    refine (j_iconst d57_16).trans ?_
    exact g_iret d57_17 rfl rfl
set_option maxRecDepth 10000 in
theorem w57_2 {Q : Option Value → mm → Prop} (ρ : rm) (τ : Int64) (hB : BM ρ) : G 57 0 [some (.ref 5), some (.ref 1002)] [] (toM ρ τ) Q = (if ((ρ 5 4) - (ρ 5 6)) = 3 then (if 0 ≤ ((ρ 5 6) + 0) ∧ ((ρ 5 6) + 0) < 200 then (if (ρ 37 ((ρ 5 6) + 0)) = 119 then (if 0 ≤ ((ρ 5 6) + 1) ∧ ((ρ 5 6) + 1) < 200 then (if (ρ 37 ((ρ 5 6) + 1)) = 97 then (if 0 ≤ ((ρ 5 6) + 2) ∧ ((ρ 5 6) + 2) < 200 then (if (ρ 37 ((ρ 5 6) + 2)) = 121 then Q (some (vI 1)) (toM ρ τ) else Q (some (vI 0)) (toM ρ τ)) else False) else Q (some (vI 0)) (toM ρ τ)) else False) else Q (some (vI 0)) (toM ρ τ)) else False) else Q (some (vI 0)) (toM ρ τ)) := by
  have p1 := hB 5 4 (by decide)
  have p2 := hB 5 6 (by decide)
  refine (g_aload_n d57_0 rfl rfl).trans ?_
  refine (j_getI (v := ρ 5 4) d57_1 f3_38 sh_5 (by decide) rfl rfl).trans ?_
  refine (g_aload_n d57_4 rfl rfl).trans ?_
  refine (j_getI (v := ρ 5 6) d57_5 f3_45 sh_5 (by decide) rfl rfl).trans ?_
  refine (j_isub d57_8).trans ?_
  refine (g_aload_n d57_9 rfl rfl).trans ?_
  refine (g_cV d57_10 k3_121 rfl rfl rfl).trans ?_
  show G 186 0 (some (.ref 1002) :: []) [] (toM ρ τ) _ = _
  refine (g_aload_n d186_0 rfl rfl).trans ?_
  refine (g_getS (v := .ref 1102) d186_1 (by decide) rfl).trans ?_
  refine (j_alenL (v := 3) d186_4 (by decide) (by decide) (by decide)).trans ?_
  refine (g_aload_n d186_5 rfl rfl).trans ?_
  refine (g_cV d186_6 k20_335 rfl rfl rfl).trans ?_
  show G 188 0 (some (.ref 1002) :: []) [] (toM ρ τ) _ = _
  refine (g_gets1 d188_0 rfl).trans ?_
  refine (show _ = _ from rfl : G 188 3 (some (.ref 1002) :: []) (.int 1 :: []) (toM ρ τ) _ = G 188 3 (some (.ref 1002) :: []) [vI 1] (toM ρ τ) _).trans ?_
  refine ((g_if_eq (tgt := 13) d188_3 (by decide)).trans (if_neg (by decide))).trans ?_
  refine (g_aload_n d188_6 rfl rfl).trans ?_
  refine (g_getS (v := vI 0) d188_7 (by decide) rfl).trans ?_
  refine (g_goto (tgt := 14) d188_10 (by decide)).trans ?_
  refine (g_iret d188_14 rfl (by decide)).trans ?_
  show G 186 9 (some (.ref 1002) :: []) [vI 0, vI 3] (toM ρ τ) _ = _
  refine (j_ishrL (v := 3) d186_9 (by decide)).trans ?_
  refine (g_iret d186_10 rfl rfl).trans ?_
  show G 57 13 (some (.ref 5) :: some (.ref 1002) :: []) [vI 3, vI ((ρ 5 4) - (ρ 5 6))] (toM ρ τ) _ = _
  refine j_icmp_eq (tgt := 18) d57_13 (by decide) (by omega) (by omega) (fun q1 => ?_) (fun q1 => ?_)
  ·
    refine (j_iconst d57_18).trans ?_
    refine (g_istore_n d57_19 (by decide) rfl rfl).trans ?_
    refine (g_iload_n d57_20 rfl).trans ?_
    refine (g_aload_n d57_21 rfl rfl).trans ?_
    refine (g_cV d57_22 k3_121 rfl rfl rfl).trans ?_
    show G 186 0 (some (.ref 1002) :: []) [] (toM ρ τ) _ = _
    refine (g_aload_n d186_0 rfl rfl).trans ?_
    refine (g_getS (v := .ref 1102) d186_1 (by decide) rfl).trans ?_
    refine (j_alenL (v := 3) d186_4 (by decide) (by decide) (by decide)).trans ?_
    refine (g_aload_n d186_5 rfl rfl).trans ?_
    refine (g_cV d186_6 k20_335 rfl rfl rfl).trans ?_
    show G 188 0 (some (.ref 1002) :: []) [] (toM ρ τ) _ = _
    refine (g_gets1 d188_0 rfl).trans ?_
    refine (show _ = _ from rfl : G 188 3 (some (.ref 1002) :: []) (.int 1 :: []) (toM ρ τ) _ = G 188 3 (some (.ref 1002) :: []) [vI 1] (toM ρ τ) _).trans ?_
    refine ((g_if_eq (tgt := 13) d188_3 (by decide)).trans (if_neg (by decide))).trans ?_
    refine (g_aload_n d188_6 rfl rfl).trans ?_
    refine (g_getS (v := vI 0) d188_7 (by decide) rfl).trans ?_
    refine (g_goto (tgt := 14) d188_10 (by decide)).trans ?_
    refine (g_iret d188_14 rfl (by decide)).trans ?_
    show G 186 9 (some (.ref 1002) :: []) [vI 0, vI 3] (toM ρ τ) _ = _
    refine (j_ishrL (v := 3) d186_9 (by decide)).trans ?_
    refine (g_iret d186_10 rfl rfl).trans ?_
    show G 57 25 (some (.ref 5) :: some (.ref 1002) :: some (vI 0) :: []) [vI 3, vI 0] (toM ρ τ) _ = _
    refine ((g_icmp_ge (tgt := 58) d57_25 (by decide)).trans (if_neg (by decide))).trans ?_
    refine (g_aload_n d57_28 rfl rfl).trans ?_
    refine (g_getR (q := 4) d57_29 f3_18 sh_5 (by decide) rfl).trans ?_
    refine (g_getR (q := 37) d57_32 f3_88 sh_4 (by decide) rfl).trans ?_
    refine (g_aload_n d57_35 rfl rfl).trans ?_
    refine (j_getI (v := ρ 5 6) d57_36 f3_45 sh_5 (by decide) rfl rfl).trans ?_
    refine (g_iload_n d57_39 rfl).trans ?_
    refine (j_iadd d57_40).trans ?_
    refine j_iaload (v := ρ 37 ((ρ 5 6) + 0)) d57_41 sh_37 (by omega) rfl (fun q2 => ?_)
    have q3 := hB 37 ((ρ 5 6) + 0) (by decide)
    refine (g_aload_n d57_42 rfl rfl).trans ?_
    refine (g_iload_n d57_43 rfl).trans ?_
    refine (g_cV d57_44 k3_125 rfl rfl rfl).trans ?_
    show G 187 0 (some (.ref 1002) :: some (vI 0) :: []) [] (toM ρ τ) _ = _
    refine (g_aload_n d187_0 rfl rfl).trans ?_
    refine (g_cV d187_1 k20_492 rfl rfl rfl).trans ?_
    show G 189 0 (some (.ref 1002) :: []) [] (toM ρ τ) _ = _
    refine (g_gets1 d189_0 rfl).trans ?_
    refine (show _ = _ from rfl : G 189 3 (some (.ref 1002) :: []) (.int 1 :: []) (toM ρ τ) _ = G 189 3 (some (.ref 1002) :: []) [vI 1] (toM ρ τ) _).trans ?_
    refine ((g_if_eq (tgt := 17) d189_3 (by decide)).trans (if_neg (by decide))).trans ?_
    refine (g_aload_n d189_6 rfl rfl).trans ?_
    refine (g_getS (v := vI 0) d189_7 (by decide) rfl).trans ?_
    refine ((g_if_ne (tgt := 17) d189_10 (by decide)).trans (if_pos (by decide))).trans ?_
    refine (j_iconst d189_13).trans ?_
    refine (g_goto (tgt := 18) d189_14 (by decide)).trans ?_
    refine (g_iret d189_18 rfl (by decide)).trans ?_
    show G 187 4 (some (.ref 1002) :: some (vI 0) :: []) [vI 1] (toM ρ τ) _ = _
    refine ((g_if_eq (tgt := 16) d187_4 (by decide)).trans (if_neg (by decide))).trans ?_
    refine (g_aload_n d187_7 rfl rfl).trans ?_
    refine (g_getS (v := .ref 1102) d187_8 (by decide) rfl).trans ?_
    refine (g_iload_n d187_11 rfl).trans ?_
    refine (g_cS d187_12 k20_495 rfl rfl rfl).trans ?_
    show G 191 0 (some (.ref 1102) :: some (vI 0) :: []) [] (toM ρ τ) _ = _
    refine (g_iload_n d191_0 rfl).trans ?_
    refine (g_aload_n d191_1 rfl rfl).trans ?_
    refine (j_alenL (v := 3) d191_2 (by decide) (by decide) (by decide)).trans ?_
    refine (g_cS d191_3 k21_9 rfl rfl rfl).trans ?_
    show G 190 0 (some (vI 0) :: some (vI 3) :: []) [] (toM ρ τ) _ = _
    refine (g_iload_n d190_0 rfl).trans ?_
    refine (g_iload_n d190_1 rfl).trans ?_
    refine (g_gets2 d190_2 rfl).trans ?_
    refine (g_cS d190_5 k20_1059 rfl rfl rfl).trans ?_
    show G 196 0 (some (vI 0) :: some (vI 3) :: some (.ref 1200) :: []) [] (toM ρ τ) _ = _
    refine (g_iload_n d196_0 rfl).trans ?_
    refine ((g_if_lt (tgt := 9) d196_1 (by decide)).trans (if_neg (by decide))).trans ?_
    refine (g_iload_n d196_4 rfl).trans ?_
    refine (g_iload_n d196_5 rfl).trans ?_
    refine ((g_icmp_lt (tgt := 16) d196_6 (by decide)).trans (if_pos (by decide))).trans ?_
    refine (g_iload_n d196_16 rfl).trans ?_
    refine (g_iret d196_17 rfl rfl).trans ?_
    show G 190 8 (some (vI 0) :: some (vI 3) :: []) [vI 0] (toM ρ τ) _ = _
    refine (g_pop d190_8).trans ?_
    refine (g_ret d190_9 rfl).trans ?_
    show G 191 6 (some (.ref 1102) :: some (vI 0) :: []) [] (toM ρ τ) _ = _
    refine (g_aload_n d191_6 rfl rfl).trans ?_
    refine (g_iload_n d191_7 rfl).trans ?_
    refine (j_baloadL (v := 119) d191_8 (by decide) (by decide) (by decide)).trans ?_
    refine (j_sipush d191_9 (by decide)).trans ?_
    refine (j_iandL (v := 119) d191_12 (by decide)).trans ?_
    refine (j_i2cL (v := 119) d191_13 (by decide)).trans ?_
    refine (g_iret d191_14 rfl (by decide)).trans ?_
    show G 187 15 (some (.ref 1002) :: some (vI 0) :: []) [vI 119] (toM ρ τ) _ = _
    refine (g_iret d187_15 rfl (by decide)).trans ?_
    show G 57 47 (some (.ref 5) :: some (.ref 1002) :: some (vI 0) :: []) [vI 119, vI (ρ 37 ((ρ 5 6) + 0))] (toM ρ τ) _ = _
    refine j_icmp_eq (tgt := 52) d57_47 (by decide) (by omega) (by omega) (fun q4 => ?_) (fun q4 => ?_)
    ·
      refine (j_iinc (x := 0) d57_52 rfl (by decide) rfl (lv' := (some (.ref 5) :: some (.ref 1002) :: some (vI 1) :: [])) rfl).trans ?_
      refine (g_goto (tgt := 20) d57_55 (by decide)).trans ?_
      refine (g_iload_n d57_20 rfl).trans ?_
      refine (g_aload_n d57_21 rfl rfl).trans ?_
      refine (g_cV d57_22 k3_121 rfl rfl rfl).trans ?_
      show G 186 0 (some (.ref 1002) :: []) [] (toM ρ τ) _ = _
      refine (g_aload_n d186_0 rfl rfl).trans ?_
      refine (g_getS (v := .ref 1102) d186_1 (by decide) rfl).trans ?_
      refine (j_alenL (v := 3) d186_4 (by decide) (by decide) (by decide)).trans ?_
      refine (g_aload_n d186_5 rfl rfl).trans ?_
      refine (g_cV d186_6 k20_335 rfl rfl rfl).trans ?_
      show G 188 0 (some (.ref 1002) :: []) [] (toM ρ τ) _ = _
      refine (g_gets1 d188_0 rfl).trans ?_
      refine (show _ = _ from rfl : G 188 3 (some (.ref 1002) :: []) (.int 1 :: []) (toM ρ τ) _ = G 188 3 (some (.ref 1002) :: []) [vI 1] (toM ρ τ) _).trans ?_
      refine ((g_if_eq (tgt := 13) d188_3 (by decide)).trans (if_neg (by decide))).trans ?_
      refine (g_aload_n d188_6 rfl rfl).trans ?_
      refine (g_getS (v := vI 0) d188_7 (by decide) rfl).trans ?_
      refine (g_goto (tgt := 14) d188_10 (by decide)).trans ?_
      refine (g_iret d188_14 rfl (by decide)).trans ?_
      show G 186 9 (some (.ref 1002) :: []) [vI 0, vI 3] (toM ρ τ) _ = _
      refine (j_ishrL (v := 3) d186_9 (by decide)).trans ?_
      refine (g_iret d186_10 rfl rfl).trans ?_
      show G 57 25 (some (.ref 5) :: some (.ref 1002) :: some (vI 1) :: []) [vI 3, vI 1] (toM ρ τ) _ = _
      refine ((g_icmp_ge (tgt := 58) d57_25 (by decide)).trans (if_neg (by decide))).trans ?_
      refine (g_aload_n d57_28 rfl rfl).trans ?_
      refine (g_getR (q := 4) d57_29 f3_18 sh_5 (by decide) rfl).trans ?_
      refine (g_getR (q := 37) d57_32 f3_88 sh_4 (by decide) rfl).trans ?_
      refine (g_aload_n d57_35 rfl rfl).trans ?_
      refine (j_getI (v := ρ 5 6) d57_36 f3_45 sh_5 (by decide) rfl rfl).trans ?_
      refine (g_iload_n d57_39 rfl).trans ?_
      refine (j_iadd d57_40).trans ?_
      refine j_iaload (v := ρ 37 ((ρ 5 6) + 1)) d57_41 sh_37 (by omega) rfl (fun q5 => ?_)
      have q6 := hB 37 ((ρ 5 6) + 1) (by decide)
      refine (g_aload_n d57_42 rfl rfl).trans ?_
      refine (g_iload_n d57_43 rfl).trans ?_
      refine (g_cV d57_44 k3_125 rfl rfl rfl).trans ?_
      show G 187 0 (some (.ref 1002) :: some (vI 1) :: []) [] (toM ρ τ) _ = _
      refine (g_aload_n d187_0 rfl rfl).trans ?_
      refine (g_cV d187_1 k20_492 rfl rfl rfl).trans ?_
      show G 189 0 (some (.ref 1002) :: []) [] (toM ρ τ) _ = _
      refine (g_gets1 d189_0 rfl).trans ?_
      refine (show _ = _ from rfl : G 189 3 (some (.ref 1002) :: []) (.int 1 :: []) (toM ρ τ) _ = G 189 3 (some (.ref 1002) :: []) [vI 1] (toM ρ τ) _).trans ?_
      refine ((g_if_eq (tgt := 17) d189_3 (by decide)).trans (if_neg (by decide))).trans ?_
      refine (g_aload_n d189_6 rfl rfl).trans ?_
      refine (g_getS (v := vI 0) d189_7 (by decide) rfl).trans ?_
      refine ((g_if_ne (tgt := 17) d189_10 (by decide)).trans (if_pos (by decide))).trans ?_
      refine (j_iconst d189_13).trans ?_
      refine (g_goto (tgt := 18) d189_14 (by decide)).trans ?_
      refine (g_iret d189_18 rfl (by decide)).trans ?_
      show G 187 4 (some (.ref 1002) :: some (vI 1) :: []) [vI 1] (toM ρ τ) _ = _
      refine ((g_if_eq (tgt := 16) d187_4 (by decide)).trans (if_neg (by decide))).trans ?_
      refine (g_aload_n d187_7 rfl rfl).trans ?_
      refine (g_getS (v := .ref 1102) d187_8 (by decide) rfl).trans ?_
      refine (g_iload_n d187_11 rfl).trans ?_
      refine (g_cS d187_12 k20_495 rfl rfl rfl).trans ?_
      show G 191 0 (some (.ref 1102) :: some (vI 1) :: []) [] (toM ρ τ) _ = _
      refine (g_iload_n d191_0 rfl).trans ?_
      refine (g_aload_n d191_1 rfl rfl).trans ?_
      refine (j_alenL (v := 3) d191_2 (by decide) (by decide) (by decide)).trans ?_
      refine (g_cS d191_3 k21_9 rfl rfl rfl).trans ?_
      show G 190 0 (some (vI 1) :: some (vI 3) :: []) [] (toM ρ τ) _ = _
      refine (g_iload_n d190_0 rfl).trans ?_
      refine (g_iload_n d190_1 rfl).trans ?_
      refine (g_gets2 d190_2 rfl).trans ?_
      refine (g_cS d190_5 k20_1059 rfl rfl rfl).trans ?_
      show G 196 0 (some (vI 1) :: some (vI 3) :: some (.ref 1200) :: []) [] (toM ρ τ) _ = _
      refine (g_iload_n d196_0 rfl).trans ?_
      refine ((g_if_lt (tgt := 9) d196_1 (by decide)).trans (if_neg (by decide))).trans ?_
      refine (g_iload_n d196_4 rfl).trans ?_
      refine (g_iload_n d196_5 rfl).trans ?_
      refine ((g_icmp_lt (tgt := 16) d196_6 (by decide)).trans (if_pos (by decide))).trans ?_
      refine (g_iload_n d196_16 rfl).trans ?_
      refine (g_iret d196_17 rfl rfl).trans ?_
      show G 190 8 (some (vI 1) :: some (vI 3) :: []) [vI 1] (toM ρ τ) _ = _
      refine (g_pop d190_8).trans ?_
      refine (g_ret d190_9 rfl).trans ?_
      show G 191 6 (some (.ref 1102) :: some (vI 1) :: []) [] (toM ρ τ) _ = _
      refine (g_aload_n d191_6 rfl rfl).trans ?_
      refine (g_iload_n d191_7 rfl).trans ?_
      refine (j_baloadL (v := 97) d191_8 (by decide) (by decide) (by decide)).trans ?_
      refine (j_sipush d191_9 (by decide)).trans ?_
      refine (j_iandL (v := 97) d191_12 (by decide)).trans ?_
      refine (j_i2cL (v := 97) d191_13 (by decide)).trans ?_
      refine (g_iret d191_14 rfl (by decide)).trans ?_
      show G 187 15 (some (.ref 1002) :: some (vI 1) :: []) [vI 97] (toM ρ τ) _ = _
      refine (g_iret d187_15 rfl (by decide)).trans ?_
      show G 57 47 (some (.ref 5) :: some (.ref 1002) :: some (vI 1) :: []) [vI 97, vI (ρ 37 ((ρ 5 6) + 1))] (toM ρ τ) _ = _
      refine j_icmp_eq (tgt := 52) d57_47 (by decide) (by omega) (by omega) (fun q7 => ?_) (fun q7 => ?_)
      ·
        refine (j_iinc (x := 1) d57_52 rfl (by decide) rfl (lv' := (some (.ref 5) :: some (.ref 1002) :: some (vI 2) :: [])) rfl).trans ?_
        refine (g_goto (tgt := 20) d57_55 (by decide)).trans ?_
        refine (g_iload_n d57_20 rfl).trans ?_
        refine (g_aload_n d57_21 rfl rfl).trans ?_
        refine (g_cV d57_22 k3_121 rfl rfl rfl).trans ?_
        show G 186 0 (some (.ref 1002) :: []) [] (toM ρ τ) _ = _
        refine (g_aload_n d186_0 rfl rfl).trans ?_
        refine (g_getS (v := .ref 1102) d186_1 (by decide) rfl).trans ?_
        refine (j_alenL (v := 3) d186_4 (by decide) (by decide) (by decide)).trans ?_
        refine (g_aload_n d186_5 rfl rfl).trans ?_
        refine (g_cV d186_6 k20_335 rfl rfl rfl).trans ?_
        show G 188 0 (some (.ref 1002) :: []) [] (toM ρ τ) _ = _
        refine (g_gets1 d188_0 rfl).trans ?_
        refine (show _ = _ from rfl : G 188 3 (some (.ref 1002) :: []) (.int 1 :: []) (toM ρ τ) _ = G 188 3 (some (.ref 1002) :: []) [vI 1] (toM ρ τ) _).trans ?_
        refine ((g_if_eq (tgt := 13) d188_3 (by decide)).trans (if_neg (by decide))).trans ?_
        refine (g_aload_n d188_6 rfl rfl).trans ?_
        refine (g_getS (v := vI 0) d188_7 (by decide) rfl).trans ?_
        refine (g_goto (tgt := 14) d188_10 (by decide)).trans ?_
        refine (g_iret d188_14 rfl (by decide)).trans ?_
        show G 186 9 (some (.ref 1002) :: []) [vI 0, vI 3] (toM ρ τ) _ = _
        refine (j_ishrL (v := 3) d186_9 (by decide)).trans ?_
        refine (g_iret d186_10 rfl rfl).trans ?_
        show G 57 25 (some (.ref 5) :: some (.ref 1002) :: some (vI 2) :: []) [vI 3, vI 2] (toM ρ τ) _ = _
        refine ((g_icmp_ge (tgt := 58) d57_25 (by decide)).trans (if_neg (by decide))).trans ?_
        refine (g_aload_n d57_28 rfl rfl).trans ?_
        refine (g_getR (q := 4) d57_29 f3_18 sh_5 (by decide) rfl).trans ?_
        refine (g_getR (q := 37) d57_32 f3_88 sh_4 (by decide) rfl).trans ?_
        refine (g_aload_n d57_35 rfl rfl).trans ?_
        refine (j_getI (v := ρ 5 6) d57_36 f3_45 sh_5 (by decide) rfl rfl).trans ?_
        refine (g_iload_n d57_39 rfl).trans ?_
        refine (j_iadd d57_40).trans ?_
        refine j_iaload (v := ρ 37 ((ρ 5 6) + 2)) d57_41 sh_37 (by omega) rfl (fun q8 => ?_)
        have q9 := hB 37 ((ρ 5 6) + 2) (by decide)
        refine (g_aload_n d57_42 rfl rfl).trans ?_
        refine (g_iload_n d57_43 rfl).trans ?_
        refine (g_cV d57_44 k3_125 rfl rfl rfl).trans ?_
        show G 187 0 (some (.ref 1002) :: some (vI 2) :: []) [] (toM ρ τ) _ = _
        refine (g_aload_n d187_0 rfl rfl).trans ?_
        refine (g_cV d187_1 k20_492 rfl rfl rfl).trans ?_
        show G 189 0 (some (.ref 1002) :: []) [] (toM ρ τ) _ = _
        refine (g_gets1 d189_0 rfl).trans ?_
        refine (show _ = _ from rfl : G 189 3 (some (.ref 1002) :: []) (.int 1 :: []) (toM ρ τ) _ = G 189 3 (some (.ref 1002) :: []) [vI 1] (toM ρ τ) _).trans ?_
        refine ((g_if_eq (tgt := 17) d189_3 (by decide)).trans (if_neg (by decide))).trans ?_
        refine (g_aload_n d189_6 rfl rfl).trans ?_
        refine (g_getS (v := vI 0) d189_7 (by decide) rfl).trans ?_
        refine ((g_if_ne (tgt := 17) d189_10 (by decide)).trans (if_pos (by decide))).trans ?_
        refine (j_iconst d189_13).trans ?_
        refine (g_goto (tgt := 18) d189_14 (by decide)).trans ?_
        refine (g_iret d189_18 rfl (by decide)).trans ?_
        show G 187 4 (some (.ref 1002) :: some (vI 2) :: []) [vI 1] (toM ρ τ) _ = _
        refine ((g_if_eq (tgt := 16) d187_4 (by decide)).trans (if_neg (by decide))).trans ?_
        refine (g_aload_n d187_7 rfl rfl).trans ?_
        refine (g_getS (v := .ref 1102) d187_8 (by decide) rfl).trans ?_
        refine (g_iload_n d187_11 rfl).trans ?_
        refine (g_cS d187_12 k20_495 rfl rfl rfl).trans ?_
        show G 191 0 (some (.ref 1102) :: some (vI 2) :: []) [] (toM ρ τ) _ = _
        refine (g_iload_n d191_0 rfl).trans ?_
        refine (g_aload_n d191_1 rfl rfl).trans ?_
        refine (j_alenL (v := 3) d191_2 (by decide) (by decide) (by decide)).trans ?_
        refine (g_cS d191_3 k21_9 rfl rfl rfl).trans ?_
        show G 190 0 (some (vI 2) :: some (vI 3) :: []) [] (toM ρ τ) _ = _
        refine (g_iload_n d190_0 rfl).trans ?_
        refine (g_iload_n d190_1 rfl).trans ?_
        refine (g_gets2 d190_2 rfl).trans ?_
        refine (g_cS d190_5 k20_1059 rfl rfl rfl).trans ?_
        show G 196 0 (some (vI 2) :: some (vI 3) :: some (.ref 1200) :: []) [] (toM ρ τ) _ = _
        refine (g_iload_n d196_0 rfl).trans ?_
        refine ((g_if_lt (tgt := 9) d196_1 (by decide)).trans (if_neg (by decide))).trans ?_
        refine (g_iload_n d196_4 rfl).trans ?_
        refine (g_iload_n d196_5 rfl).trans ?_
        refine ((g_icmp_lt (tgt := 16) d196_6 (by decide)).trans (if_pos (by decide))).trans ?_
        refine (g_iload_n d196_16 rfl).trans ?_
        refine (g_iret d196_17 rfl rfl).trans ?_
        show G 190 8 (some (vI 2) :: some (vI 3) :: []) [vI 2] (toM ρ τ) _ = _
        refine (g_pop d190_8).trans ?_
        refine (g_ret d190_9 rfl).trans ?_
        show G 191 6 (some (.ref 1102) :: some (vI 2) :: []) [] (toM ρ τ) _ = _
        refine (g_aload_n d191_6 rfl rfl).trans ?_
        refine (g_iload_n d191_7 rfl).trans ?_
        refine (j_baloadL (v := 121) d191_8 (by decide) (by decide) (by decide)).trans ?_
        refine (j_sipush d191_9 (by decide)).trans ?_
        refine (j_iandL (v := 121) d191_12 (by decide)).trans ?_
        refine (j_i2cL (v := 121) d191_13 (by decide)).trans ?_
        refine (g_iret d191_14 rfl (by decide)).trans ?_
        show G 187 15 (some (.ref 1002) :: some (vI 2) :: []) [vI 121] (toM ρ τ) _ = _
        refine (g_iret d187_15 rfl (by decide)).trans ?_
        show G 57 47 (some (.ref 5) :: some (.ref 1002) :: some (vI 2) :: []) [vI 121, vI (ρ 37 ((ρ 5 6) + 2))] (toM ρ τ) _ = _
        refine j_icmp_eq (tgt := 52) d57_47 (by decide) (by omega) (by omega) (fun q10 => ?_) (fun q10 => ?_)
        ·
          refine (j_iinc (x := 2) d57_52 rfl (by decide) rfl (lv' := (some (.ref 5) :: some (.ref 1002) :: some (vI 3) :: [])) rfl).trans ?_
          refine (g_goto (tgt := 20) d57_55 (by decide)).trans ?_
          refine (g_iload_n d57_20 rfl).trans ?_
          refine (g_aload_n d57_21 rfl rfl).trans ?_
          refine (g_cV d57_22 k3_121 rfl rfl rfl).trans ?_
          show G 186 0 (some (.ref 1002) :: []) [] (toM ρ τ) _ = _
          refine (g_aload_n d186_0 rfl rfl).trans ?_
          refine (g_getS (v := .ref 1102) d186_1 (by decide) rfl).trans ?_
          refine (j_alenL (v := 3) d186_4 (by decide) (by decide) (by decide)).trans ?_
          refine (g_aload_n d186_5 rfl rfl).trans ?_
          refine (g_cV d186_6 k20_335 rfl rfl rfl).trans ?_
          show G 188 0 (some (.ref 1002) :: []) [] (toM ρ τ) _ = _
          refine (g_gets1 d188_0 rfl).trans ?_
          refine (show _ = _ from rfl : G 188 3 (some (.ref 1002) :: []) (.int 1 :: []) (toM ρ τ) _ = G 188 3 (some (.ref 1002) :: []) [vI 1] (toM ρ τ) _).trans ?_
          refine ((g_if_eq (tgt := 13) d188_3 (by decide)).trans (if_neg (by decide))).trans ?_
          refine (g_aload_n d188_6 rfl rfl).trans ?_
          refine (g_getS (v := vI 0) d188_7 (by decide) rfl).trans ?_
          refine (g_goto (tgt := 14) d188_10 (by decide)).trans ?_
          refine (g_iret d188_14 rfl (by decide)).trans ?_
          show G 186 9 (some (.ref 1002) :: []) [vI 0, vI 3] (toM ρ τ) _ = _
          refine (j_ishrL (v := 3) d186_9 (by decide)).trans ?_
          refine (g_iret d186_10 rfl rfl).trans ?_
          show G 57 25 (some (.ref 5) :: some (.ref 1002) :: some (vI 3) :: []) [vI 3, vI 3] (toM ρ τ) _ = _
          refine ((g_icmp_ge (tgt := 58) d57_25 (by decide)).trans (if_pos (by decide))).trans ?_
          refine (j_iconst d57_58).trans ?_
          exact g_iret d57_59 rfl rfl
        ·
          refine (j_iconst d57_50).trans ?_
          exact g_iret d57_51 rfl rfl
      ·
        refine (j_iconst d57_50).trans ?_
        exact g_iret d57_51 rfl rfl
    ·
      refine (j_iconst d57_50).trans ?_
      exact g_iret d57_51 rfl rfl
  ·
    refine (j_iconst d57_16).trans ?_
    exact g_iret d57_17 rfl rfl
set_option maxRecDepth 10000 in
theorem w57_3 {Q : Option Value → mm → Prop} (ρ : rm) (τ : Int64) (hB : BM ρ) : G 57 0 [some (.ref 5), some (.ref 1003)] [] (toM ρ τ) Q = (if ((ρ 5 4) - (ρ 5 6)) = 4 then (if 0 ≤ ((ρ 5 6) + 0) ∧ ((ρ 5 6) + 0) < 200 then (if (ρ 37 ((ρ 5 6) + 0)) = 119 then (if 0 ≤ ((ρ 5 6) + 1) ∧ ((ρ 5 6) + 1) < 200 then (if (ρ 37 ((ρ 5 6) + 1)) = 97 then (if 0 ≤ ((ρ 5 6) + 2) ∧ ((ρ 5 6) + 2) < 200 then (if (ρ 37 ((ρ 5 6) + 2)) = 108 then (if 0 ≤ ((ρ 5 6) + 3) ∧ ((ρ 5 6) + 3) < 200 then (if (ρ 37 ((ρ 5 6) + 3)) = 108 then Q (some (vI 1)) (toM ρ τ) else Q (some (vI 0)) (toM ρ τ)) else False) else Q (some (vI 0)) (toM ρ τ)) else False) else Q (some (vI 0)) (toM ρ τ)) else False) else Q (some (vI 0)) (toM ρ τ)) else False) else Q (some (vI 0)) (toM ρ τ)) := by
  have p1 := hB 5 4 (by decide)
  have p2 := hB 5 6 (by decide)
  refine (g_aload_n d57_0 rfl rfl).trans ?_
  refine (j_getI (v := ρ 5 4) d57_1 f3_38 sh_5 (by decide) rfl rfl).trans ?_
  refine (g_aload_n d57_4 rfl rfl).trans ?_
  refine (j_getI (v := ρ 5 6) d57_5 f3_45 sh_5 (by decide) rfl rfl).trans ?_
  refine (j_isub d57_8).trans ?_
  refine (g_aload_n d57_9 rfl rfl).trans ?_
  refine (g_cV d57_10 k3_121 rfl rfl rfl).trans ?_
  show G 186 0 (some (.ref 1003) :: []) [] (toM ρ τ) _ = _
  refine (g_aload_n d186_0 rfl rfl).trans ?_
  refine (g_getS (v := .ref 1103) d186_1 (by decide) rfl).trans ?_
  refine (j_alenL (v := 4) d186_4 (by decide) (by decide) (by decide)).trans ?_
  refine (g_aload_n d186_5 rfl rfl).trans ?_
  refine (g_cV d186_6 k20_335 rfl rfl rfl).trans ?_
  show G 188 0 (some (.ref 1003) :: []) [] (toM ρ τ) _ = _
  refine (g_gets1 d188_0 rfl).trans ?_
  refine (show _ = _ from rfl : G 188 3 (some (.ref 1003) :: []) (.int 1 :: []) (toM ρ τ) _ = G 188 3 (some (.ref 1003) :: []) [vI 1] (toM ρ τ) _).trans ?_
  refine ((g_if_eq (tgt := 13) d188_3 (by decide)).trans (if_neg (by decide))).trans ?_
  refine (g_aload_n d188_6 rfl rfl).trans ?_
  refine (g_getS (v := vI 0) d188_7 (by decide) rfl).trans ?_
  refine (g_goto (tgt := 14) d188_10 (by decide)).trans ?_
  refine (g_iret d188_14 rfl (by decide)).trans ?_
  show G 186 9 (some (.ref 1003) :: []) [vI 0, vI 4] (toM ρ τ) _ = _
  refine (j_ishrL (v := 4) d186_9 (by decide)).trans ?_
  refine (g_iret d186_10 rfl rfl).trans ?_
  show G 57 13 (some (.ref 5) :: some (.ref 1003) :: []) [vI 4, vI ((ρ 5 4) - (ρ 5 6))] (toM ρ τ) _ = _
  refine j_icmp_eq (tgt := 18) d57_13 (by decide) (by omega) (by omega) (fun q1 => ?_) (fun q1 => ?_)
  ·
    refine (j_iconst d57_18).trans ?_
    refine (g_istore_n d57_19 (by decide) rfl rfl).trans ?_
    refine (g_iload_n d57_20 rfl).trans ?_
    refine (g_aload_n d57_21 rfl rfl).trans ?_
    refine (g_cV d57_22 k3_121 rfl rfl rfl).trans ?_
    show G 186 0 (some (.ref 1003) :: []) [] (toM ρ τ) _ = _
    refine (g_aload_n d186_0 rfl rfl).trans ?_
    refine (g_getS (v := .ref 1103) d186_1 (by decide) rfl).trans ?_
    refine (j_alenL (v := 4) d186_4 (by decide) (by decide) (by decide)).trans ?_
    refine (g_aload_n d186_5 rfl rfl).trans ?_
    refine (g_cV d186_6 k20_335 rfl rfl rfl).trans ?_
    show G 188 0 (some (.ref 1003) :: []) [] (toM ρ τ) _ = _
    refine (g_gets1 d188_0 rfl).trans ?_
    refine (show _ = _ from rfl : G 188 3 (some (.ref 1003) :: []) (.int 1 :: []) (toM ρ τ) _ = G 188 3 (some (.ref 1003) :: []) [vI 1] (toM ρ τ) _).trans ?_
    refine ((g_if_eq (tgt := 13) d188_3 (by decide)).trans (if_neg (by decide))).trans ?_
    refine (g_aload_n d188_6 rfl rfl).trans ?_
    refine (g_getS (v := vI 0) d188_7 (by decide) rfl).trans ?_
    refine (g_goto (tgt := 14) d188_10 (by decide)).trans ?_
    refine (g_iret d188_14 rfl (by decide)).trans ?_
    show G 186 9 (some (.ref 1003) :: []) [vI 0, vI 4] (toM ρ τ) _ = _
    refine (j_ishrL (v := 4) d186_9 (by decide)).trans ?_
    refine (g_iret d186_10 rfl rfl).trans ?_
    show G 57 25 (some (.ref 5) :: some (.ref 1003) :: some (vI 0) :: []) [vI 4, vI 0] (toM ρ τ) _ = _
    refine ((g_icmp_ge (tgt := 58) d57_25 (by decide)).trans (if_neg (by decide))).trans ?_
    refine (g_aload_n d57_28 rfl rfl).trans ?_
    refine (g_getR (q := 4) d57_29 f3_18 sh_5 (by decide) rfl).trans ?_
    refine (g_getR (q := 37) d57_32 f3_88 sh_4 (by decide) rfl).trans ?_
    refine (g_aload_n d57_35 rfl rfl).trans ?_
    refine (j_getI (v := ρ 5 6) d57_36 f3_45 sh_5 (by decide) rfl rfl).trans ?_
    refine (g_iload_n d57_39 rfl).trans ?_
    refine (j_iadd d57_40).trans ?_
    refine j_iaload (v := ρ 37 ((ρ 5 6) + 0)) d57_41 sh_37 (by omega) rfl (fun q2 => ?_)
    have q3 := hB 37 ((ρ 5 6) + 0) (by decide)
    refine (g_aload_n d57_42 rfl rfl).trans ?_
    refine (g_iload_n d57_43 rfl).trans ?_
    refine (g_cV d57_44 k3_125 rfl rfl rfl).trans ?_
    show G 187 0 (some (.ref 1003) :: some (vI 0) :: []) [] (toM ρ τ) _ = _
    refine (g_aload_n d187_0 rfl rfl).trans ?_
    refine (g_cV d187_1 k20_492 rfl rfl rfl).trans ?_
    show G 189 0 (some (.ref 1003) :: []) [] (toM ρ τ) _ = _
    refine (g_gets1 d189_0 rfl).trans ?_
    refine (show _ = _ from rfl : G 189 3 (some (.ref 1003) :: []) (.int 1 :: []) (toM ρ τ) _ = G 189 3 (some (.ref 1003) :: []) [vI 1] (toM ρ τ) _).trans ?_
    refine ((g_if_eq (tgt := 17) d189_3 (by decide)).trans (if_neg (by decide))).trans ?_
    refine (g_aload_n d189_6 rfl rfl).trans ?_
    refine (g_getS (v := vI 0) d189_7 (by decide) rfl).trans ?_
    refine ((g_if_ne (tgt := 17) d189_10 (by decide)).trans (if_pos (by decide))).trans ?_
    refine (j_iconst d189_13).trans ?_
    refine (g_goto (tgt := 18) d189_14 (by decide)).trans ?_
    refine (g_iret d189_18 rfl (by decide)).trans ?_
    show G 187 4 (some (.ref 1003) :: some (vI 0) :: []) [vI 1] (toM ρ τ) _ = _
    refine ((g_if_eq (tgt := 16) d187_4 (by decide)).trans (if_neg (by decide))).trans ?_
    refine (g_aload_n d187_7 rfl rfl).trans ?_
    refine (g_getS (v := .ref 1103) d187_8 (by decide) rfl).trans ?_
    refine (g_iload_n d187_11 rfl).trans ?_
    refine (g_cS d187_12 k20_495 rfl rfl rfl).trans ?_
    show G 191 0 (some (.ref 1103) :: some (vI 0) :: []) [] (toM ρ τ) _ = _
    refine (g_iload_n d191_0 rfl).trans ?_
    refine (g_aload_n d191_1 rfl rfl).trans ?_
    refine (j_alenL (v := 4) d191_2 (by decide) (by decide) (by decide)).trans ?_
    refine (g_cS d191_3 k21_9 rfl rfl rfl).trans ?_
    show G 190 0 (some (vI 0) :: some (vI 4) :: []) [] (toM ρ τ) _ = _
    refine (g_iload_n d190_0 rfl).trans ?_
    refine (g_iload_n d190_1 rfl).trans ?_
    refine (g_gets2 d190_2 rfl).trans ?_
    refine (g_cS d190_5 k20_1059 rfl rfl rfl).trans ?_
    show G 196 0 (some (vI 0) :: some (vI 4) :: some (.ref 1200) :: []) [] (toM ρ τ) _ = _
    refine (g_iload_n d196_0 rfl).trans ?_
    refine ((g_if_lt (tgt := 9) d196_1 (by decide)).trans (if_neg (by decide))).trans ?_
    refine (g_iload_n d196_4 rfl).trans ?_
    refine (g_iload_n d196_5 rfl).trans ?_
    refine ((g_icmp_lt (tgt := 16) d196_6 (by decide)).trans (if_pos (by decide))).trans ?_
    refine (g_iload_n d196_16 rfl).trans ?_
    refine (g_iret d196_17 rfl rfl).trans ?_
    show G 190 8 (some (vI 0) :: some (vI 4) :: []) [vI 0] (toM ρ τ) _ = _
    refine (g_pop d190_8).trans ?_
    refine (g_ret d190_9 rfl).trans ?_
    show G 191 6 (some (.ref 1103) :: some (vI 0) :: []) [] (toM ρ τ) _ = _
    refine (g_aload_n d191_6 rfl rfl).trans ?_
    refine (g_iload_n d191_7 rfl).trans ?_
    refine (j_baloadL (v := 119) d191_8 (by decide) (by decide) (by decide)).trans ?_
    refine (j_sipush d191_9 (by decide)).trans ?_
    refine (j_iandL (v := 119) d191_12 (by decide)).trans ?_
    refine (j_i2cL (v := 119) d191_13 (by decide)).trans ?_
    refine (g_iret d191_14 rfl (by decide)).trans ?_
    show G 187 15 (some (.ref 1003) :: some (vI 0) :: []) [vI 119] (toM ρ τ) _ = _
    refine (g_iret d187_15 rfl (by decide)).trans ?_
    show G 57 47 (some (.ref 5) :: some (.ref 1003) :: some (vI 0) :: []) [vI 119, vI (ρ 37 ((ρ 5 6) + 0))] (toM ρ τ) _ = _
    refine j_icmp_eq (tgt := 52) d57_47 (by decide) (by omega) (by omega) (fun q4 => ?_) (fun q4 => ?_)
    ·
      refine (j_iinc (x := 0) d57_52 rfl (by decide) rfl (lv' := (some (.ref 5) :: some (.ref 1003) :: some (vI 1) :: [])) rfl).trans ?_
      refine (g_goto (tgt := 20) d57_55 (by decide)).trans ?_
      refine (g_iload_n d57_20 rfl).trans ?_
      refine (g_aload_n d57_21 rfl rfl).trans ?_
      refine (g_cV d57_22 k3_121 rfl rfl rfl).trans ?_
      show G 186 0 (some (.ref 1003) :: []) [] (toM ρ τ) _ = _
      refine (g_aload_n d186_0 rfl rfl).trans ?_
      refine (g_getS (v := .ref 1103) d186_1 (by decide) rfl).trans ?_
      refine (j_alenL (v := 4) d186_4 (by decide) (by decide) (by decide)).trans ?_
      refine (g_aload_n d186_5 rfl rfl).trans ?_
      refine (g_cV d186_6 k20_335 rfl rfl rfl).trans ?_
      show G 188 0 (some (.ref 1003) :: []) [] (toM ρ τ) _ = _
      refine (g_gets1 d188_0 rfl).trans ?_
      refine (show _ = _ from rfl : G 188 3 (some (.ref 1003) :: []) (.int 1 :: []) (toM ρ τ) _ = G 188 3 (some (.ref 1003) :: []) [vI 1] (toM ρ τ) _).trans ?_
      refine ((g_if_eq (tgt := 13) d188_3 (by decide)).trans (if_neg (by decide))).trans ?_
      refine (g_aload_n d188_6 rfl rfl).trans ?_
      refine (g_getS (v := vI 0) d188_7 (by decide) rfl).trans ?_
      refine (g_goto (tgt := 14) d188_10 (by decide)).trans ?_
      refine (g_iret d188_14 rfl (by decide)).trans ?_
      show G 186 9 (some (.ref 1003) :: []) [vI 0, vI 4] (toM ρ τ) _ = _
      refine (j_ishrL (v := 4) d186_9 (by decide)).trans ?_
      refine (g_iret d186_10 rfl rfl).trans ?_
      show G 57 25 (some (.ref 5) :: some (.ref 1003) :: some (vI 1) :: []) [vI 4, vI 1] (toM ρ τ) _ = _
      refine ((g_icmp_ge (tgt := 58) d57_25 (by decide)).trans (if_neg (by decide))).trans ?_
      refine (g_aload_n d57_28 rfl rfl).trans ?_
      refine (g_getR (q := 4) d57_29 f3_18 sh_5 (by decide) rfl).trans ?_
      refine (g_getR (q := 37) d57_32 f3_88 sh_4 (by decide) rfl).trans ?_
      refine (g_aload_n d57_35 rfl rfl).trans ?_
      refine (j_getI (v := ρ 5 6) d57_36 f3_45 sh_5 (by decide) rfl rfl).trans ?_
      refine (g_iload_n d57_39 rfl).trans ?_
      refine (j_iadd d57_40).trans ?_
      refine j_iaload (v := ρ 37 ((ρ 5 6) + 1)) d57_41 sh_37 (by omega) rfl (fun q5 => ?_)
      have q6 := hB 37 ((ρ 5 6) + 1) (by decide)
      refine (g_aload_n d57_42 rfl rfl).trans ?_
      refine (g_iload_n d57_43 rfl).trans ?_
      refine (g_cV d57_44 k3_125 rfl rfl rfl).trans ?_
      show G 187 0 (some (.ref 1003) :: some (vI 1) :: []) [] (toM ρ τ) _ = _
      refine (g_aload_n d187_0 rfl rfl).trans ?_
      refine (g_cV d187_1 k20_492 rfl rfl rfl).trans ?_
      show G 189 0 (some (.ref 1003) :: []) [] (toM ρ τ) _ = _
      refine (g_gets1 d189_0 rfl).trans ?_
      refine (show _ = _ from rfl : G 189 3 (some (.ref 1003) :: []) (.int 1 :: []) (toM ρ τ) _ = G 189 3 (some (.ref 1003) :: []) [vI 1] (toM ρ τ) _).trans ?_
      refine ((g_if_eq (tgt := 17) d189_3 (by decide)).trans (if_neg (by decide))).trans ?_
      refine (g_aload_n d189_6 rfl rfl).trans ?_
      refine (g_getS (v := vI 0) d189_7 (by decide) rfl).trans ?_
      refine ((g_if_ne (tgt := 17) d189_10 (by decide)).trans (if_pos (by decide))).trans ?_
      refine (j_iconst d189_13).trans ?_
      refine (g_goto (tgt := 18) d189_14 (by decide)).trans ?_
      refine (g_iret d189_18 rfl (by decide)).trans ?_
      show G 187 4 (some (.ref 1003) :: some (vI 1) :: []) [vI 1] (toM ρ τ) _ = _
      refine ((g_if_eq (tgt := 16) d187_4 (by decide)).trans (if_neg (by decide))).trans ?_
      refine (g_aload_n d187_7 rfl rfl).trans ?_
      refine (g_getS (v := .ref 1103) d187_8 (by decide) rfl).trans ?_
      refine (g_iload_n d187_11 rfl).trans ?_
      refine (g_cS d187_12 k20_495 rfl rfl rfl).trans ?_
      show G 191 0 (some (.ref 1103) :: some (vI 1) :: []) [] (toM ρ τ) _ = _
      refine (g_iload_n d191_0 rfl).trans ?_
      refine (g_aload_n d191_1 rfl rfl).trans ?_
      refine (j_alenL (v := 4) d191_2 (by decide) (by decide) (by decide)).trans ?_
      refine (g_cS d191_3 k21_9 rfl rfl rfl).trans ?_
      show G 190 0 (some (vI 1) :: some (vI 4) :: []) [] (toM ρ τ) _ = _
      refine (g_iload_n d190_0 rfl).trans ?_
      refine (g_iload_n d190_1 rfl).trans ?_
      refine (g_gets2 d190_2 rfl).trans ?_
      refine (g_cS d190_5 k20_1059 rfl rfl rfl).trans ?_
      show G 196 0 (some (vI 1) :: some (vI 4) :: some (.ref 1200) :: []) [] (toM ρ τ) _ = _
      refine (g_iload_n d196_0 rfl).trans ?_
      refine ((g_if_lt (tgt := 9) d196_1 (by decide)).trans (if_neg (by decide))).trans ?_
      refine (g_iload_n d196_4 rfl).trans ?_
      refine (g_iload_n d196_5 rfl).trans ?_
      refine ((g_icmp_lt (tgt := 16) d196_6 (by decide)).trans (if_pos (by decide))).trans ?_
      refine (g_iload_n d196_16 rfl).trans ?_
      refine (g_iret d196_17 rfl rfl).trans ?_
      show G 190 8 (some (vI 1) :: some (vI 4) :: []) [vI 1] (toM ρ τ) _ = _
      refine (g_pop d190_8).trans ?_
      refine (g_ret d190_9 rfl).trans ?_
      show G 191 6 (some (.ref 1103) :: some (vI 1) :: []) [] (toM ρ τ) _ = _
      refine (g_aload_n d191_6 rfl rfl).trans ?_
      refine (g_iload_n d191_7 rfl).trans ?_
      refine (j_baloadL (v := 97) d191_8 (by decide) (by decide) (by decide)).trans ?_
      refine (j_sipush d191_9 (by decide)).trans ?_
      refine (j_iandL (v := 97) d191_12 (by decide)).trans ?_
      refine (j_i2cL (v := 97) d191_13 (by decide)).trans ?_
      refine (g_iret d191_14 rfl (by decide)).trans ?_
      show G 187 15 (some (.ref 1003) :: some (vI 1) :: []) [vI 97] (toM ρ τ) _ = _
      refine (g_iret d187_15 rfl (by decide)).trans ?_
      show G 57 47 (some (.ref 5) :: some (.ref 1003) :: some (vI 1) :: []) [vI 97, vI (ρ 37 ((ρ 5 6) + 1))] (toM ρ τ) _ = _
      refine j_icmp_eq (tgt := 52) d57_47 (by decide) (by omega) (by omega) (fun q7 => ?_) (fun q7 => ?_)
      ·
        refine (j_iinc (x := 1) d57_52 rfl (by decide) rfl (lv' := (some (.ref 5) :: some (.ref 1003) :: some (vI 2) :: [])) rfl).trans ?_
        refine (g_goto (tgt := 20) d57_55 (by decide)).trans ?_
        refine (g_iload_n d57_20 rfl).trans ?_
        refine (g_aload_n d57_21 rfl rfl).trans ?_
        refine (g_cV d57_22 k3_121 rfl rfl rfl).trans ?_
        show G 186 0 (some (.ref 1003) :: []) [] (toM ρ τ) _ = _
        refine (g_aload_n d186_0 rfl rfl).trans ?_
        refine (g_getS (v := .ref 1103) d186_1 (by decide) rfl).trans ?_
        refine (j_alenL (v := 4) d186_4 (by decide) (by decide) (by decide)).trans ?_
        refine (g_aload_n d186_5 rfl rfl).trans ?_
        refine (g_cV d186_6 k20_335 rfl rfl rfl).trans ?_
        show G 188 0 (some (.ref 1003) :: []) [] (toM ρ τ) _ = _
        refine (g_gets1 d188_0 rfl).trans ?_
        refine (show _ = _ from rfl : G 188 3 (some (.ref 1003) :: []) (.int 1 :: []) (toM ρ τ) _ = G 188 3 (some (.ref 1003) :: []) [vI 1] (toM ρ τ) _).trans ?_
        refine ((g_if_eq (tgt := 13) d188_3 (by decide)).trans (if_neg (by decide))).trans ?_
        refine (g_aload_n d188_6 rfl rfl).trans ?_
        refine (g_getS (v := vI 0) d188_7 (by decide) rfl).trans ?_
        refine (g_goto (tgt := 14) d188_10 (by decide)).trans ?_
        refine (g_iret d188_14 rfl (by decide)).trans ?_
        show G 186 9 (some (.ref 1003) :: []) [vI 0, vI 4] (toM ρ τ) _ = _
        refine (j_ishrL (v := 4) d186_9 (by decide)).trans ?_
        refine (g_iret d186_10 rfl rfl).trans ?_
        show G 57 25 (some (.ref 5) :: some (.ref 1003) :: some (vI 2) :: []) [vI 4, vI 2] (toM ρ τ) _ = _
        refine ((g_icmp_ge (tgt := 58) d57_25 (by decide)).trans (if_neg (by decide))).trans ?_
        refine (g_aload_n d57_28 rfl rfl).trans ?_
        refine (g_getR (q := 4) d57_29 f3_18 sh_5 (by decide) rfl).trans ?_
        refine (g_getR (q := 37) d57_32 f3_88 sh_4 (by decide) rfl).trans ?_
        refine (g_aload_n d57_35 rfl rfl).trans ?_
        refine (j_getI (v := ρ 5 6) d57_36 f3_45 sh_5 (by decide) rfl rfl).trans ?_
        refine (g_iload_n d57_39 rfl).trans ?_
        refine (j_iadd d57_40).trans ?_
        refine j_iaload (v := ρ 37 ((ρ 5 6) + 2)) d57_41 sh_37 (by omega) rfl (fun q8 => ?_)
        have q9 := hB 37 ((ρ 5 6) + 2) (by decide)
        refine (g_aload_n d57_42 rfl rfl).trans ?_
        refine (g_iload_n d57_43 rfl).trans ?_
        refine (g_cV d57_44 k3_125 rfl rfl rfl).trans ?_
        show G 187 0 (some (.ref 1003) :: some (vI 2) :: []) [] (toM ρ τ) _ = _
        refine (g_aload_n d187_0 rfl rfl).trans ?_
        refine (g_cV d187_1 k20_492 rfl rfl rfl).trans ?_
        show G 189 0 (some (.ref 1003) :: []) [] (toM ρ τ) _ = _
        refine (g_gets1 d189_0 rfl).trans ?_
        refine (show _ = _ from rfl : G 189 3 (some (.ref 1003) :: []) (.int 1 :: []) (toM ρ τ) _ = G 189 3 (some (.ref 1003) :: []) [vI 1] (toM ρ τ) _).trans ?_
        refine ((g_if_eq (tgt := 17) d189_3 (by decide)).trans (if_neg (by decide))).trans ?_
        refine (g_aload_n d189_6 rfl rfl).trans ?_
        refine (g_getS (v := vI 0) d189_7 (by decide) rfl).trans ?_
        refine ((g_if_ne (tgt := 17) d189_10 (by decide)).trans (if_pos (by decide))).trans ?_
        refine (j_iconst d189_13).trans ?_
        refine (g_goto (tgt := 18) d189_14 (by decide)).trans ?_
        refine (g_iret d189_18 rfl (by decide)).trans ?_
        show G 187 4 (some (.ref 1003) :: some (vI 2) :: []) [vI 1] (toM ρ τ) _ = _
        refine ((g_if_eq (tgt := 16) d187_4 (by decide)).trans (if_neg (by decide))).trans ?_
        refine (g_aload_n d187_7 rfl rfl).trans ?_
        refine (g_getS (v := .ref 1103) d187_8 (by decide) rfl).trans ?_
        refine (g_iload_n d187_11 rfl).trans ?_
        refine (g_cS d187_12 k20_495 rfl rfl rfl).trans ?_
        show G 191 0 (some (.ref 1103) :: some (vI 2) :: []) [] (toM ρ τ) _ = _
        refine (g_iload_n d191_0 rfl).trans ?_
        refine (g_aload_n d191_1 rfl rfl).trans ?_
        refine (j_alenL (v := 4) d191_2 (by decide) (by decide) (by decide)).trans ?_
        refine (g_cS d191_3 k21_9 rfl rfl rfl).trans ?_
        show G 190 0 (some (vI 2) :: some (vI 4) :: []) [] (toM ρ τ) _ = _
        refine (g_iload_n d190_0 rfl).trans ?_
        refine (g_iload_n d190_1 rfl).trans ?_
        refine (g_gets2 d190_2 rfl).trans ?_
        refine (g_cS d190_5 k20_1059 rfl rfl rfl).trans ?_
        show G 196 0 (some (vI 2) :: some (vI 4) :: some (.ref 1200) :: []) [] (toM ρ τ) _ = _
        refine (g_iload_n d196_0 rfl).trans ?_
        refine ((g_if_lt (tgt := 9) d196_1 (by decide)).trans (if_neg (by decide))).trans ?_
        refine (g_iload_n d196_4 rfl).trans ?_
        refine (g_iload_n d196_5 rfl).trans ?_
        refine ((g_icmp_lt (tgt := 16) d196_6 (by decide)).trans (if_pos (by decide))).trans ?_
        refine (g_iload_n d196_16 rfl).trans ?_
        refine (g_iret d196_17 rfl rfl).trans ?_
        show G 190 8 (some (vI 2) :: some (vI 4) :: []) [vI 2] (toM ρ τ) _ = _
        refine (g_pop d190_8).trans ?_
        refine (g_ret d190_9 rfl).trans ?_
        show G 191 6 (some (.ref 1103) :: some (vI 2) :: []) [] (toM ρ τ) _ = _
        refine (g_aload_n d191_6 rfl rfl).trans ?_
        refine (g_iload_n d191_7 rfl).trans ?_
        refine (j_baloadL (v := 108) d191_8 (by decide) (by decide) (by decide)).trans ?_
        refine (j_sipush d191_9 (by decide)).trans ?_
        refine (j_iandL (v := 108) d191_12 (by decide)).trans ?_
        refine (j_i2cL (v := 108) d191_13 (by decide)).trans ?_
        refine (g_iret d191_14 rfl (by decide)).trans ?_
        show G 187 15 (some (.ref 1003) :: some (vI 2) :: []) [vI 108] (toM ρ τ) _ = _
        refine (g_iret d187_15 rfl (by decide)).trans ?_
        show G 57 47 (some (.ref 5) :: some (.ref 1003) :: some (vI 2) :: []) [vI 108, vI (ρ 37 ((ρ 5 6) + 2))] (toM ρ τ) _ = _
        refine j_icmp_eq (tgt := 52) d57_47 (by decide) (by omega) (by omega) (fun q10 => ?_) (fun q10 => ?_)
        ·
          refine (j_iinc (x := 2) d57_52 rfl (by decide) rfl (lv' := (some (.ref 5) :: some (.ref 1003) :: some (vI 3) :: [])) rfl).trans ?_
          refine (g_goto (tgt := 20) d57_55 (by decide)).trans ?_
          refine (g_iload_n d57_20 rfl).trans ?_
          refine (g_aload_n d57_21 rfl rfl).trans ?_
          refine (g_cV d57_22 k3_121 rfl rfl rfl).trans ?_
          show G 186 0 (some (.ref 1003) :: []) [] (toM ρ τ) _ = _
          refine (g_aload_n d186_0 rfl rfl).trans ?_
          refine (g_getS (v := .ref 1103) d186_1 (by decide) rfl).trans ?_
          refine (j_alenL (v := 4) d186_4 (by decide) (by decide) (by decide)).trans ?_
          refine (g_aload_n d186_5 rfl rfl).trans ?_
          refine (g_cV d186_6 k20_335 rfl rfl rfl).trans ?_
          show G 188 0 (some (.ref 1003) :: []) [] (toM ρ τ) _ = _
          refine (g_gets1 d188_0 rfl).trans ?_
          refine (show _ = _ from rfl : G 188 3 (some (.ref 1003) :: []) (.int 1 :: []) (toM ρ τ) _ = G 188 3 (some (.ref 1003) :: []) [vI 1] (toM ρ τ) _).trans ?_
          refine ((g_if_eq (tgt := 13) d188_3 (by decide)).trans (if_neg (by decide))).trans ?_
          refine (g_aload_n d188_6 rfl rfl).trans ?_
          refine (g_getS (v := vI 0) d188_7 (by decide) rfl).trans ?_
          refine (g_goto (tgt := 14) d188_10 (by decide)).trans ?_
          refine (g_iret d188_14 rfl (by decide)).trans ?_
          show G 186 9 (some (.ref 1003) :: []) [vI 0, vI 4] (toM ρ τ) _ = _
          refine (j_ishrL (v := 4) d186_9 (by decide)).trans ?_
          refine (g_iret d186_10 rfl rfl).trans ?_
          show G 57 25 (some (.ref 5) :: some (.ref 1003) :: some (vI 3) :: []) [vI 4, vI 3] (toM ρ τ) _ = _
          refine ((g_icmp_ge (tgt := 58) d57_25 (by decide)).trans (if_neg (by decide))).trans ?_
          refine (g_aload_n d57_28 rfl rfl).trans ?_
          refine (g_getR (q := 4) d57_29 f3_18 sh_5 (by decide) rfl).trans ?_
          refine (g_getR (q := 37) d57_32 f3_88 sh_4 (by decide) rfl).trans ?_
          refine (g_aload_n d57_35 rfl rfl).trans ?_
          refine (j_getI (v := ρ 5 6) d57_36 f3_45 sh_5 (by decide) rfl rfl).trans ?_
          refine (g_iload_n d57_39 rfl).trans ?_
          refine (j_iadd d57_40).trans ?_
          refine j_iaload (v := ρ 37 ((ρ 5 6) + 3)) d57_41 sh_37 (by omega) rfl (fun q11 => ?_)
          have q12 := hB 37 ((ρ 5 6) + 3) (by decide)
          refine (g_aload_n d57_42 rfl rfl).trans ?_
          refine (g_iload_n d57_43 rfl).trans ?_
          refine (g_cV d57_44 k3_125 rfl rfl rfl).trans ?_
          show G 187 0 (some (.ref 1003) :: some (vI 3) :: []) [] (toM ρ τ) _ = _
          refine (g_aload_n d187_0 rfl rfl).trans ?_
          refine (g_cV d187_1 k20_492 rfl rfl rfl).trans ?_
          show G 189 0 (some (.ref 1003) :: []) [] (toM ρ τ) _ = _
          refine (g_gets1 d189_0 rfl).trans ?_
          refine (show _ = _ from rfl : G 189 3 (some (.ref 1003) :: []) (.int 1 :: []) (toM ρ τ) _ = G 189 3 (some (.ref 1003) :: []) [vI 1] (toM ρ τ) _).trans ?_
          refine ((g_if_eq (tgt := 17) d189_3 (by decide)).trans (if_neg (by decide))).trans ?_
          refine (g_aload_n d189_6 rfl rfl).trans ?_
          refine (g_getS (v := vI 0) d189_7 (by decide) rfl).trans ?_
          refine ((g_if_ne (tgt := 17) d189_10 (by decide)).trans (if_pos (by decide))).trans ?_
          refine (j_iconst d189_13).trans ?_
          refine (g_goto (tgt := 18) d189_14 (by decide)).trans ?_
          refine (g_iret d189_18 rfl (by decide)).trans ?_
          show G 187 4 (some (.ref 1003) :: some (vI 3) :: []) [vI 1] (toM ρ τ) _ = _
          refine ((g_if_eq (tgt := 16) d187_4 (by decide)).trans (if_neg (by decide))).trans ?_
          refine (g_aload_n d187_7 rfl rfl).trans ?_
          refine (g_getS (v := .ref 1103) d187_8 (by decide) rfl).trans ?_
          refine (g_iload_n d187_11 rfl).trans ?_
          refine (g_cS d187_12 k20_495 rfl rfl rfl).trans ?_
          show G 191 0 (some (.ref 1103) :: some (vI 3) :: []) [] (toM ρ τ) _ = _
          refine (g_iload_n d191_0 rfl).trans ?_
          refine (g_aload_n d191_1 rfl rfl).trans ?_
          refine (j_alenL (v := 4) d191_2 (by decide) (by decide) (by decide)).trans ?_
          refine (g_cS d191_3 k21_9 rfl rfl rfl).trans ?_
          show G 190 0 (some (vI 3) :: some (vI 4) :: []) [] (toM ρ τ) _ = _
          refine (g_iload_n d190_0 rfl).trans ?_
          refine (g_iload_n d190_1 rfl).trans ?_
          refine (g_gets2 d190_2 rfl).trans ?_
          refine (g_cS d190_5 k20_1059 rfl rfl rfl).trans ?_
          show G 196 0 (some (vI 3) :: some (vI 4) :: some (.ref 1200) :: []) [] (toM ρ τ) _ = _
          refine (g_iload_n d196_0 rfl).trans ?_
          refine ((g_if_lt (tgt := 9) d196_1 (by decide)).trans (if_neg (by decide))).trans ?_
          refine (g_iload_n d196_4 rfl).trans ?_
          refine (g_iload_n d196_5 rfl).trans ?_
          refine ((g_icmp_lt (tgt := 16) d196_6 (by decide)).trans (if_pos (by decide))).trans ?_
          refine (g_iload_n d196_16 rfl).trans ?_
          refine (g_iret d196_17 rfl rfl).trans ?_
          show G 190 8 (some (vI 3) :: some (vI 4) :: []) [vI 3] (toM ρ τ) _ = _
          refine (g_pop d190_8).trans ?_
          refine (g_ret d190_9 rfl).trans ?_
          show G 191 6 (some (.ref 1103) :: some (vI 3) :: []) [] (toM ρ τ) _ = _
          refine (g_aload_n d191_6 rfl rfl).trans ?_
          refine (g_iload_n d191_7 rfl).trans ?_
          refine (j_baloadL (v := 108) d191_8 (by decide) (by decide) (by decide)).trans ?_
          refine (j_sipush d191_9 (by decide)).trans ?_
          refine (j_iandL (v := 108) d191_12 (by decide)).trans ?_
          refine (j_i2cL (v := 108) d191_13 (by decide)).trans ?_
          refine (g_iret d191_14 rfl (by decide)).trans ?_
          show G 187 15 (some (.ref 1003) :: some (vI 3) :: []) [vI 108] (toM ρ τ) _ = _
          refine (g_iret d187_15 rfl (by decide)).trans ?_
          show G 57 47 (some (.ref 5) :: some (.ref 1003) :: some (vI 3) :: []) [vI 108, vI (ρ 37 ((ρ 5 6) + 3))] (toM ρ τ) _ = _
          refine j_icmp_eq (tgt := 52) d57_47 (by decide) (by omega) (by omega) (fun q13 => ?_) (fun q13 => ?_)
          ·
            refine (j_iinc (x := 3) d57_52 rfl (by decide) rfl (lv' := (some (.ref 5) :: some (.ref 1003) :: some (vI 4) :: [])) rfl).trans ?_
            refine (g_goto (tgt := 20) d57_55 (by decide)).trans ?_
            refine (g_iload_n d57_20 rfl).trans ?_
            refine (g_aload_n d57_21 rfl rfl).trans ?_
            refine (g_cV d57_22 k3_121 rfl rfl rfl).trans ?_
            show G 186 0 (some (.ref 1003) :: []) [] (toM ρ τ) _ = _
            refine (g_aload_n d186_0 rfl rfl).trans ?_
            refine (g_getS (v := .ref 1103) d186_1 (by decide) rfl).trans ?_
            refine (j_alenL (v := 4) d186_4 (by decide) (by decide) (by decide)).trans ?_
            refine (g_aload_n d186_5 rfl rfl).trans ?_
            refine (g_cV d186_6 k20_335 rfl rfl rfl).trans ?_
            show G 188 0 (some (.ref 1003) :: []) [] (toM ρ τ) _ = _
            refine (g_gets1 d188_0 rfl).trans ?_
            refine (show _ = _ from rfl : G 188 3 (some (.ref 1003) :: []) (.int 1 :: []) (toM ρ τ) _ = G 188 3 (some (.ref 1003) :: []) [vI 1] (toM ρ τ) _).trans ?_
            refine ((g_if_eq (tgt := 13) d188_3 (by decide)).trans (if_neg (by decide))).trans ?_
            refine (g_aload_n d188_6 rfl rfl).trans ?_
            refine (g_getS (v := vI 0) d188_7 (by decide) rfl).trans ?_
            refine (g_goto (tgt := 14) d188_10 (by decide)).trans ?_
            refine (g_iret d188_14 rfl (by decide)).trans ?_
            show G 186 9 (some (.ref 1003) :: []) [vI 0, vI 4] (toM ρ τ) _ = _
            refine (j_ishrL (v := 4) d186_9 (by decide)).trans ?_
            refine (g_iret d186_10 rfl rfl).trans ?_
            show G 57 25 (some (.ref 5) :: some (.ref 1003) :: some (vI 4) :: []) [vI 4, vI 4] (toM ρ τ) _ = _
            refine ((g_icmp_ge (tgt := 58) d57_25 (by decide)).trans (if_pos (by decide))).trans ?_
            refine (j_iconst d57_58).trans ?_
            exact g_iret d57_59 rfl rfl
          ·
            refine (j_iconst d57_50).trans ?_
            exact g_iret d57_51 rfl rfl
        ·
          refine (j_iconst d57_50).trans ?_
          exact g_iret d57_51 rfl rfl
      ·
        refine (j_iconst d57_50).trans ?_
        exact g_iret d57_51 rfl rfl
    ·
      refine (j_iconst d57_50).trans ?_
      exact g_iret d57_51 rfl rfl
  ·
    refine (j_iconst d57_16).trans ?_
    exact g_iret d57_17 rfl rfl
set_option maxRecDepth 10000 in
theorem w57_4 {Q : Option Value → mm → Prop} (ρ : rm) (τ : Int64) (hB : BM ρ) : G 57 0 [some (.ref 5), some (.ref 1004)] [] (toM ρ τ) Q = (if ((ρ 5 4) - (ρ 5 6)) = 4 then (if 0 ≤ ((ρ 5 6) + 0) ∧ ((ρ 5 6) + 0) < 200 then (if (ρ 37 ((ρ 5 6) + 0)) = 100 then (if 0 ≤ ((ρ 5 6) + 1) ∧ ((ρ 5 6) + 1) < 200 then (if (ρ 37 ((ρ 5 6) + 1)) = 101 then (if 0 ≤ ((ρ 5 6) + 2) ∧ ((ρ 5 6) + 2) < 200 then (if (ρ 37 ((ρ 5 6) + 2)) = 101 then (if 0 ≤ ((ρ 5 6) + 3) ∧ ((ρ 5 6) + 3) < 200 then (if (ρ 37 ((ρ 5 6) + 3)) = 100 then Q (some (vI 1)) (toM ρ τ) else Q (some (vI 0)) (toM ρ τ)) else False) else Q (some (vI 0)) (toM ρ τ)) else False) else Q (some (vI 0)) (toM ρ τ)) else False) else Q (some (vI 0)) (toM ρ τ)) else False) else Q (some (vI 0)) (toM ρ τ)) := by
  have p1 := hB 5 4 (by decide)
  have p2 := hB 5 6 (by decide)
  refine (g_aload_n d57_0 rfl rfl).trans ?_
  refine (j_getI (v := ρ 5 4) d57_1 f3_38 sh_5 (by decide) rfl rfl).trans ?_
  refine (g_aload_n d57_4 rfl rfl).trans ?_
  refine (j_getI (v := ρ 5 6) d57_5 f3_45 sh_5 (by decide) rfl rfl).trans ?_
  refine (j_isub d57_8).trans ?_
  refine (g_aload_n d57_9 rfl rfl).trans ?_
  refine (g_cV d57_10 k3_121 rfl rfl rfl).trans ?_
  show G 186 0 (some (.ref 1004) :: []) [] (toM ρ τ) _ = _
  refine (g_aload_n d186_0 rfl rfl).trans ?_
  refine (g_getS (v := .ref 1104) d186_1 (by decide) rfl).trans ?_
  refine (j_alenL (v := 4) d186_4 (by decide) (by decide) (by decide)).trans ?_
  refine (g_aload_n d186_5 rfl rfl).trans ?_
  refine (g_cV d186_6 k20_335 rfl rfl rfl).trans ?_
  show G 188 0 (some (.ref 1004) :: []) [] (toM ρ τ) _ = _
  refine (g_gets1 d188_0 rfl).trans ?_
  refine (show _ = _ from rfl : G 188 3 (some (.ref 1004) :: []) (.int 1 :: []) (toM ρ τ) _ = G 188 3 (some (.ref 1004) :: []) [vI 1] (toM ρ τ) _).trans ?_
  refine ((g_if_eq (tgt := 13) d188_3 (by decide)).trans (if_neg (by decide))).trans ?_
  refine (g_aload_n d188_6 rfl rfl).trans ?_
  refine (g_getS (v := vI 0) d188_7 (by decide) rfl).trans ?_
  refine (g_goto (tgt := 14) d188_10 (by decide)).trans ?_
  refine (g_iret d188_14 rfl (by decide)).trans ?_
  show G 186 9 (some (.ref 1004) :: []) [vI 0, vI 4] (toM ρ τ) _ = _
  refine (j_ishrL (v := 4) d186_9 (by decide)).trans ?_
  refine (g_iret d186_10 rfl rfl).trans ?_
  show G 57 13 (some (.ref 5) :: some (.ref 1004) :: []) [vI 4, vI ((ρ 5 4) - (ρ 5 6))] (toM ρ τ) _ = _
  refine j_icmp_eq (tgt := 18) d57_13 (by decide) (by omega) (by omega) (fun q1 => ?_) (fun q1 => ?_)
  ·
    refine (j_iconst d57_18).trans ?_
    refine (g_istore_n d57_19 (by decide) rfl rfl).trans ?_
    refine (g_iload_n d57_20 rfl).trans ?_
    refine (g_aload_n d57_21 rfl rfl).trans ?_
    refine (g_cV d57_22 k3_121 rfl rfl rfl).trans ?_
    show G 186 0 (some (.ref 1004) :: []) [] (toM ρ τ) _ = _
    refine (g_aload_n d186_0 rfl rfl).trans ?_
    refine (g_getS (v := .ref 1104) d186_1 (by decide) rfl).trans ?_
    refine (j_alenL (v := 4) d186_4 (by decide) (by decide) (by decide)).trans ?_
    refine (g_aload_n d186_5 rfl rfl).trans ?_
    refine (g_cV d186_6 k20_335 rfl rfl rfl).trans ?_
    show G 188 0 (some (.ref 1004) :: []) [] (toM ρ τ) _ = _
    refine (g_gets1 d188_0 rfl).trans ?_
    refine (show _ = _ from rfl : G 188 3 (some (.ref 1004) :: []) (.int 1 :: []) (toM ρ τ) _ = G 188 3 (some (.ref 1004) :: []) [vI 1] (toM ρ τ) _).trans ?_
    refine ((g_if_eq (tgt := 13) d188_3 (by decide)).trans (if_neg (by decide))).trans ?_
    refine (g_aload_n d188_6 rfl rfl).trans ?_
    refine (g_getS (v := vI 0) d188_7 (by decide) rfl).trans ?_
    refine (g_goto (tgt := 14) d188_10 (by decide)).trans ?_
    refine (g_iret d188_14 rfl (by decide)).trans ?_
    show G 186 9 (some (.ref 1004) :: []) [vI 0, vI 4] (toM ρ τ) _ = _
    refine (j_ishrL (v := 4) d186_9 (by decide)).trans ?_
    refine (g_iret d186_10 rfl rfl).trans ?_
    show G 57 25 (some (.ref 5) :: some (.ref 1004) :: some (vI 0) :: []) [vI 4, vI 0] (toM ρ τ) _ = _
    refine ((g_icmp_ge (tgt := 58) d57_25 (by decide)).trans (if_neg (by decide))).trans ?_
    refine (g_aload_n d57_28 rfl rfl).trans ?_
    refine (g_getR (q := 4) d57_29 f3_18 sh_5 (by decide) rfl).trans ?_
    refine (g_getR (q := 37) d57_32 f3_88 sh_4 (by decide) rfl).trans ?_
    refine (g_aload_n d57_35 rfl rfl).trans ?_
    refine (j_getI (v := ρ 5 6) d57_36 f3_45 sh_5 (by decide) rfl rfl).trans ?_
    refine (g_iload_n d57_39 rfl).trans ?_
    refine (j_iadd d57_40).trans ?_
    refine j_iaload (v := ρ 37 ((ρ 5 6) + 0)) d57_41 sh_37 (by omega) rfl (fun q2 => ?_)
    have q3 := hB 37 ((ρ 5 6) + 0) (by decide)
    refine (g_aload_n d57_42 rfl rfl).trans ?_
    refine (g_iload_n d57_43 rfl).trans ?_
    refine (g_cV d57_44 k3_125 rfl rfl rfl).trans ?_
    show G 187 0 (some (.ref 1004) :: some (vI 0) :: []) [] (toM ρ τ) _ = _
    refine (g_aload_n d187_0 rfl rfl).trans ?_
    refine (g_cV d187_1 k20_492 rfl rfl rfl).trans ?_
    show G 189 0 (some (.ref 1004) :: []) [] (toM ρ τ) _ = _
    refine (g_gets1 d189_0 rfl).trans ?_
    refine (show _ = _ from rfl : G 189 3 (some (.ref 1004) :: []) (.int 1 :: []) (toM ρ τ) _ = G 189 3 (some (.ref 1004) :: []) [vI 1] (toM ρ τ) _).trans ?_
    refine ((g_if_eq (tgt := 17) d189_3 (by decide)).trans (if_neg (by decide))).trans ?_
    refine (g_aload_n d189_6 rfl rfl).trans ?_
    refine (g_getS (v := vI 0) d189_7 (by decide) rfl).trans ?_
    refine ((g_if_ne (tgt := 17) d189_10 (by decide)).trans (if_pos (by decide))).trans ?_
    refine (j_iconst d189_13).trans ?_
    refine (g_goto (tgt := 18) d189_14 (by decide)).trans ?_
    refine (g_iret d189_18 rfl (by decide)).trans ?_
    show G 187 4 (some (.ref 1004) :: some (vI 0) :: []) [vI 1] (toM ρ τ) _ = _
    refine ((g_if_eq (tgt := 16) d187_4 (by decide)).trans (if_neg (by decide))).trans ?_
    refine (g_aload_n d187_7 rfl rfl).trans ?_
    refine (g_getS (v := .ref 1104) d187_8 (by decide) rfl).trans ?_
    refine (g_iload_n d187_11 rfl).trans ?_
    refine (g_cS d187_12 k20_495 rfl rfl rfl).trans ?_
    show G 191 0 (some (.ref 1104) :: some (vI 0) :: []) [] (toM ρ τ) _ = _
    refine (g_iload_n d191_0 rfl).trans ?_
    refine (g_aload_n d191_1 rfl rfl).trans ?_
    refine (j_alenL (v := 4) d191_2 (by decide) (by decide) (by decide)).trans ?_
    refine (g_cS d191_3 k21_9 rfl rfl rfl).trans ?_
    show G 190 0 (some (vI 0) :: some (vI 4) :: []) [] (toM ρ τ) _ = _
    refine (g_iload_n d190_0 rfl).trans ?_
    refine (g_iload_n d190_1 rfl).trans ?_
    refine (g_gets2 d190_2 rfl).trans ?_
    refine (g_cS d190_5 k20_1059 rfl rfl rfl).trans ?_
    show G 196 0 (some (vI 0) :: some (vI 4) :: some (.ref 1200) :: []) [] (toM ρ τ) _ = _
    refine (g_iload_n d196_0 rfl).trans ?_
    refine ((g_if_lt (tgt := 9) d196_1 (by decide)).trans (if_neg (by decide))).trans ?_
    refine (g_iload_n d196_4 rfl).trans ?_
    refine (g_iload_n d196_5 rfl).trans ?_
    refine ((g_icmp_lt (tgt := 16) d196_6 (by decide)).trans (if_pos (by decide))).trans ?_
    refine (g_iload_n d196_16 rfl).trans ?_
    refine (g_iret d196_17 rfl rfl).trans ?_
    show G 190 8 (some (vI 0) :: some (vI 4) :: []) [vI 0] (toM ρ τ) _ = _
    refine (g_pop d190_8).trans ?_
    refine (g_ret d190_9 rfl).trans ?_
    show G 191 6 (some (.ref 1104) :: some (vI 0) :: []) [] (toM ρ τ) _ = _
    refine (g_aload_n d191_6 rfl rfl).trans ?_
    refine (g_iload_n d191_7 rfl).trans ?_
    refine (j_baloadL (v := 100) d191_8 (by decide) (by decide) (by decide)).trans ?_
    refine (j_sipush d191_9 (by decide)).trans ?_
    refine (j_iandL (v := 100) d191_12 (by decide)).trans ?_
    refine (j_i2cL (v := 100) d191_13 (by decide)).trans ?_
    refine (g_iret d191_14 rfl (by decide)).trans ?_
    show G 187 15 (some (.ref 1004) :: some (vI 0) :: []) [vI 100] (toM ρ τ) _ = _
    refine (g_iret d187_15 rfl (by decide)).trans ?_
    show G 57 47 (some (.ref 5) :: some (.ref 1004) :: some (vI 0) :: []) [vI 100, vI (ρ 37 ((ρ 5 6) + 0))] (toM ρ τ) _ = _
    refine j_icmp_eq (tgt := 52) d57_47 (by decide) (by omega) (by omega) (fun q4 => ?_) (fun q4 => ?_)
    ·
      refine (j_iinc (x := 0) d57_52 rfl (by decide) rfl (lv' := (some (.ref 5) :: some (.ref 1004) :: some (vI 1) :: [])) rfl).trans ?_
      refine (g_goto (tgt := 20) d57_55 (by decide)).trans ?_
      refine (g_iload_n d57_20 rfl).trans ?_
      refine (g_aload_n d57_21 rfl rfl).trans ?_
      refine (g_cV d57_22 k3_121 rfl rfl rfl).trans ?_
      show G 186 0 (some (.ref 1004) :: []) [] (toM ρ τ) _ = _
      refine (g_aload_n d186_0 rfl rfl).trans ?_
      refine (g_getS (v := .ref 1104) d186_1 (by decide) rfl).trans ?_
      refine (j_alenL (v := 4) d186_4 (by decide) (by decide) (by decide)).trans ?_
      refine (g_aload_n d186_5 rfl rfl).trans ?_
      refine (g_cV d186_6 k20_335 rfl rfl rfl).trans ?_
      show G 188 0 (some (.ref 1004) :: []) [] (toM ρ τ) _ = _
      refine (g_gets1 d188_0 rfl).trans ?_
      refine (show _ = _ from rfl : G 188 3 (some (.ref 1004) :: []) (.int 1 :: []) (toM ρ τ) _ = G 188 3 (some (.ref 1004) :: []) [vI 1] (toM ρ τ) _).trans ?_
      refine ((g_if_eq (tgt := 13) d188_3 (by decide)).trans (if_neg (by decide))).trans ?_
      refine (g_aload_n d188_6 rfl rfl).trans ?_
      refine (g_getS (v := vI 0) d188_7 (by decide) rfl).trans ?_
      refine (g_goto (tgt := 14) d188_10 (by decide)).trans ?_
      refine (g_iret d188_14 rfl (by decide)).trans ?_
      show G 186 9 (some (.ref 1004) :: []) [vI 0, vI 4] (toM ρ τ) _ = _
      refine (j_ishrL (v := 4) d186_9 (by decide)).trans ?_
      refine (g_iret d186_10 rfl rfl).trans ?_
      show G 57 25 (some (.ref 5) :: some (.ref 1004) :: some (vI 1) :: []) [vI 4, vI 1] (toM ρ τ) _ = _
      refine ((g_icmp_ge (tgt := 58) d57_25 (by decide)).trans (if_neg (by decide))).trans ?_
      refine (g_aload_n d57_28 rfl rfl).trans ?_
      refine (g_getR (q := 4) d57_29 f3_18 sh_5 (by decide) rfl).trans ?_
      refine (g_getR (q := 37) d57_32 f3_88 sh_4 (by decide) rfl).trans ?_
      refine (g_aload_n d57_35 rfl rfl).trans ?_
      refine (j_getI (v := ρ 5 6) d57_36 f3_45 sh_5 (by decide) rfl rfl).trans ?_
      refine (g_iload_n d57_39 rfl).trans ?_
      refine (j_iadd d57_40).trans ?_
      refine j_iaload (v := ρ 37 ((ρ 5 6) + 1)) d57_41 sh_37 (by omega) rfl (fun q5 => ?_)
      have q6 := hB 37 ((ρ 5 6) + 1) (by decide)
      refine (g_aload_n d57_42 rfl rfl).trans ?_
      refine (g_iload_n d57_43 rfl).trans ?_
      refine (g_cV d57_44 k3_125 rfl rfl rfl).trans ?_
      show G 187 0 (some (.ref 1004) :: some (vI 1) :: []) [] (toM ρ τ) _ = _
      refine (g_aload_n d187_0 rfl rfl).trans ?_
      refine (g_cV d187_1 k20_492 rfl rfl rfl).trans ?_
      show G 189 0 (some (.ref 1004) :: []) [] (toM ρ τ) _ = _
      refine (g_gets1 d189_0 rfl).trans ?_
      refine (show _ = _ from rfl : G 189 3 (some (.ref 1004) :: []) (.int 1 :: []) (toM ρ τ) _ = G 189 3 (some (.ref 1004) :: []) [vI 1] (toM ρ τ) _).trans ?_
      refine ((g_if_eq (tgt := 17) d189_3 (by decide)).trans (if_neg (by decide))).trans ?_
      refine (g_aload_n d189_6 rfl rfl).trans ?_
      refine (g_getS (v := vI 0) d189_7 (by decide) rfl).trans ?_
      refine ((g_if_ne (tgt := 17) d189_10 (by decide)).trans (if_pos (by decide))).trans ?_
      refine (j_iconst d189_13).trans ?_
      refine (g_goto (tgt := 18) d189_14 (by decide)).trans ?_
      refine (g_iret d189_18 rfl (by decide)).trans ?_
      show G 187 4 (some (.ref 1004) :: some (vI 1) :: []) [vI 1] (toM ρ τ) _ = _
      refine ((g_if_eq (tgt := 16) d187_4 (by decide)).trans (if_neg (by decide))).trans ?_
      refine (g_aload_n d187_7 rfl rfl).trans ?_
      refine (g_getS (v := .ref 1104) d187_8 (by decide) rfl).trans ?_
      refine (g_iload_n d187_11 rfl).trans ?_
      refine (g_cS d187_12 k20_495 rfl rfl rfl).trans ?_
      show G 191 0 (some (.ref 1104) :: some (vI 1) :: []) [] (toM ρ τ) _ = _
      refine (g_iload_n d191_0 rfl).trans ?_
      refine (g_aload_n d191_1 rfl rfl).trans ?_
      refine (j_alenL (v := 4) d191_2 (by decide) (by decide) (by decide)).trans ?_
      refine (g_cS d191_3 k21_9 rfl rfl rfl).trans ?_
      show G 190 0 (some (vI 1) :: some (vI 4) :: []) [] (toM ρ τ) _ = _
      refine (g_iload_n d190_0 rfl).trans ?_
      refine (g_iload_n d190_1 rfl).trans ?_
      refine (g_gets2 d190_2 rfl).trans ?_
      refine (g_cS d190_5 k20_1059 rfl rfl rfl).trans ?_
      show G 196 0 (some (vI 1) :: some (vI 4) :: some (.ref 1200) :: []) [] (toM ρ τ) _ = _
      refine (g_iload_n d196_0 rfl).trans ?_
      refine ((g_if_lt (tgt := 9) d196_1 (by decide)).trans (if_neg (by decide))).trans ?_
      refine (g_iload_n d196_4 rfl).trans ?_
      refine (g_iload_n d196_5 rfl).trans ?_
      refine ((g_icmp_lt (tgt := 16) d196_6 (by decide)).trans (if_pos (by decide))).trans ?_
      refine (g_iload_n d196_16 rfl).trans ?_
      refine (g_iret d196_17 rfl rfl).trans ?_
      show G 190 8 (some (vI 1) :: some (vI 4) :: []) [vI 1] (toM ρ τ) _ = _
      refine (g_pop d190_8).trans ?_
      refine (g_ret d190_9 rfl).trans ?_
      show G 191 6 (some (.ref 1104) :: some (vI 1) :: []) [] (toM ρ τ) _ = _
      refine (g_aload_n d191_6 rfl rfl).trans ?_
      refine (g_iload_n d191_7 rfl).trans ?_
      refine (j_baloadL (v := 101) d191_8 (by decide) (by decide) (by decide)).trans ?_
      refine (j_sipush d191_9 (by decide)).trans ?_
      refine (j_iandL (v := 101) d191_12 (by decide)).trans ?_
      refine (j_i2cL (v := 101) d191_13 (by decide)).trans ?_
      refine (g_iret d191_14 rfl (by decide)).trans ?_
      show G 187 15 (some (.ref 1004) :: some (vI 1) :: []) [vI 101] (toM ρ τ) _ = _
      refine (g_iret d187_15 rfl (by decide)).trans ?_
      show G 57 47 (some (.ref 5) :: some (.ref 1004) :: some (vI 1) :: []) [vI 101, vI (ρ 37 ((ρ 5 6) + 1))] (toM ρ τ) _ = _
      refine j_icmp_eq (tgt := 52) d57_47 (by decide) (by omega) (by omega) (fun q7 => ?_) (fun q7 => ?_)
      ·
        refine (j_iinc (x := 1) d57_52 rfl (by decide) rfl (lv' := (some (.ref 5) :: some (.ref 1004) :: some (vI 2) :: [])) rfl).trans ?_
        refine (g_goto (tgt := 20) d57_55 (by decide)).trans ?_
        refine (g_iload_n d57_20 rfl).trans ?_
        refine (g_aload_n d57_21 rfl rfl).trans ?_
        refine (g_cV d57_22 k3_121 rfl rfl rfl).trans ?_
        show G 186 0 (some (.ref 1004) :: []) [] (toM ρ τ) _ = _
        refine (g_aload_n d186_0 rfl rfl).trans ?_
        refine (g_getS (v := .ref 1104) d186_1 (by decide) rfl).trans ?_
        refine (j_alenL (v := 4) d186_4 (by decide) (by decide) (by decide)).trans ?_
        refine (g_aload_n d186_5 rfl rfl).trans ?_
        refine (g_cV d186_6 k20_335 rfl rfl rfl).trans ?_
        show G 188 0 (some (.ref 1004) :: []) [] (toM ρ τ) _ = _
        refine (g_gets1 d188_0 rfl).trans ?_
        refine (show _ = _ from rfl : G 188 3 (some (.ref 1004) :: []) (.int 1 :: []) (toM ρ τ) _ = G 188 3 (some (.ref 1004) :: []) [vI 1] (toM ρ τ) _).trans ?_
        refine ((g_if_eq (tgt := 13) d188_3 (by decide)).trans (if_neg (by decide))).trans ?_
        refine (g_aload_n d188_6 rfl rfl).trans ?_
        refine (g_getS (v := vI 0) d188_7 (by decide) rfl).trans ?_
        refine (g_goto (tgt := 14) d188_10 (by decide)).trans ?_
        refine (g_iret d188_14 rfl (by decide)).trans ?_
        show G 186 9 (some (.ref 1004) :: []) [vI 0, vI 4] (toM ρ τ) _ = _
        refine (j_ishrL (v := 4) d186_9 (by decide)).trans ?_
        refine (g_iret d186_10 rfl rfl).trans ?_
        show G 57 25 (some (.ref 5) :: some (.ref 1004) :: some (vI 2) :: []) [vI 4, vI 2] (toM ρ τ) _ = _
        refine ((g_icmp_ge (tgt := 58) d57_25 (by decide)).trans (if_neg (by decide))).trans ?_
        refine (g_aload_n d57_28 rfl rfl).trans ?_
        refine (g_getR (q := 4) d57_29 f3_18 sh_5 (by decide) rfl).trans ?_
        refine (g_getR (q := 37) d57_32 f3_88 sh_4 (by decide) rfl).trans ?_
        refine (g_aload_n d57_35 rfl rfl).trans ?_
        refine (j_getI (v := ρ 5 6) d57_36 f3_45 sh_5 (by decide) rfl rfl).trans ?_
        refine (g_iload_n d57_39 rfl).trans ?_
        refine (j_iadd d57_40).trans ?_
        refine j_iaload (v := ρ 37 ((ρ 5 6) + 2)) d57_41 sh_37 (by omega) rfl (fun q8 => ?_)
        have q9 := hB 37 ((ρ 5 6) + 2) (by decide)
        refine (g_aload_n d57_42 rfl rfl).trans ?_
        refine (g_iload_n d57_43 rfl).trans ?_
        refine (g_cV d57_44 k3_125 rfl rfl rfl).trans ?_
        show G 187 0 (some (.ref 1004) :: some (vI 2) :: []) [] (toM ρ τ) _ = _
        refine (g_aload_n d187_0 rfl rfl).trans ?_
        refine (g_cV d187_1 k20_492 rfl rfl rfl).trans ?_
        show G 189 0 (some (.ref 1004) :: []) [] (toM ρ τ) _ = _
        refine (g_gets1 d189_0 rfl).trans ?_
        refine (show _ = _ from rfl : G 189 3 (some (.ref 1004) :: []) (.int 1 :: []) (toM ρ τ) _ = G 189 3 (some (.ref 1004) :: []) [vI 1] (toM ρ τ) _).trans ?_
        refine ((g_if_eq (tgt := 17) d189_3 (by decide)).trans (if_neg (by decide))).trans ?_
        refine (g_aload_n d189_6 rfl rfl).trans ?_
        refine (g_getS (v := vI 0) d189_7 (by decide) rfl).trans ?_
        refine ((g_if_ne (tgt := 17) d189_10 (by decide)).trans (if_pos (by decide))).trans ?_
        refine (j_iconst d189_13).trans ?_
        refine (g_goto (tgt := 18) d189_14 (by decide)).trans ?_
        refine (g_iret d189_18 rfl (by decide)).trans ?_
        show G 187 4 (some (.ref 1004) :: some (vI 2) :: []) [vI 1] (toM ρ τ) _ = _
        refine ((g_if_eq (tgt := 16) d187_4 (by decide)).trans (if_neg (by decide))).trans ?_
        refine (g_aload_n d187_7 rfl rfl).trans ?_
        refine (g_getS (v := .ref 1104) d187_8 (by decide) rfl).trans ?_
        refine (g_iload_n d187_11 rfl).trans ?_
        refine (g_cS d187_12 k20_495 rfl rfl rfl).trans ?_
        show G 191 0 (some (.ref 1104) :: some (vI 2) :: []) [] (toM ρ τ) _ = _
        refine (g_iload_n d191_0 rfl).trans ?_
        refine (g_aload_n d191_1 rfl rfl).trans ?_
        refine (j_alenL (v := 4) d191_2 (by decide) (by decide) (by decide)).trans ?_
        refine (g_cS d191_3 k21_9 rfl rfl rfl).trans ?_
        show G 190 0 (some (vI 2) :: some (vI 4) :: []) [] (toM ρ τ) _ = _
        refine (g_iload_n d190_0 rfl).trans ?_
        refine (g_iload_n d190_1 rfl).trans ?_
        refine (g_gets2 d190_2 rfl).trans ?_
        refine (g_cS d190_5 k20_1059 rfl rfl rfl).trans ?_
        show G 196 0 (some (vI 2) :: some (vI 4) :: some (.ref 1200) :: []) [] (toM ρ τ) _ = _
        refine (g_iload_n d196_0 rfl).trans ?_
        refine ((g_if_lt (tgt := 9) d196_1 (by decide)).trans (if_neg (by decide))).trans ?_
        refine (g_iload_n d196_4 rfl).trans ?_
        refine (g_iload_n d196_5 rfl).trans ?_
        refine ((g_icmp_lt (tgt := 16) d196_6 (by decide)).trans (if_pos (by decide))).trans ?_
        refine (g_iload_n d196_16 rfl).trans ?_
        refine (g_iret d196_17 rfl rfl).trans ?_
        show G 190 8 (some (vI 2) :: some (vI 4) :: []) [vI 2] (toM ρ τ) _ = _
        refine (g_pop d190_8).trans ?_
        refine (g_ret d190_9 rfl).trans ?_
        show G 191 6 (some (.ref 1104) :: some (vI 2) :: []) [] (toM ρ τ) _ = _
        refine (g_aload_n d191_6 rfl rfl).trans ?_
        refine (g_iload_n d191_7 rfl).trans ?_
        refine (j_baloadL (v := 101) d191_8 (by decide) (by decide) (by decide)).trans ?_
        refine (j_sipush d191_9 (by decide)).trans ?_
        refine (j_iandL (v := 101) d191_12 (by decide)).trans ?_
        refine (j_i2cL (v := 101) d191_13 (by decide)).trans ?_
        refine (g_iret d191_14 rfl (by decide)).trans ?_
        show G 187 15 (some (.ref 1004) :: some (vI 2) :: []) [vI 101] (toM ρ τ) _ = _
        refine (g_iret d187_15 rfl (by decide)).trans ?_
        show G 57 47 (some (.ref 5) :: some (.ref 1004) :: some (vI 2) :: []) [vI 101, vI (ρ 37 ((ρ 5 6) + 2))] (toM ρ τ) _ = _
        refine j_icmp_eq (tgt := 52) d57_47 (by decide) (by omega) (by omega) (fun q10 => ?_) (fun q10 => ?_)
        ·
          refine (j_iinc (x := 2) d57_52 rfl (by decide) rfl (lv' := (some (.ref 5) :: some (.ref 1004) :: some (vI 3) :: [])) rfl).trans ?_
          refine (g_goto (tgt := 20) d57_55 (by decide)).trans ?_
          refine (g_iload_n d57_20 rfl).trans ?_
          refine (g_aload_n d57_21 rfl rfl).trans ?_
          refine (g_cV d57_22 k3_121 rfl rfl rfl).trans ?_
          show G 186 0 (some (.ref 1004) :: []) [] (toM ρ τ) _ = _
          refine (g_aload_n d186_0 rfl rfl).trans ?_
          refine (g_getS (v := .ref 1104) d186_1 (by decide) rfl).trans ?_
          refine (j_alenL (v := 4) d186_4 (by decide) (by decide) (by decide)).trans ?_
          refine (g_aload_n d186_5 rfl rfl).trans ?_
          refine (g_cV d186_6 k20_335 rfl rfl rfl).trans ?_
          show G 188 0 (some (.ref 1004) :: []) [] (toM ρ τ) _ = _
          refine (g_gets1 d188_0 rfl).trans ?_
          refine (show _ = _ from rfl : G 188 3 (some (.ref 1004) :: []) (.int 1 :: []) (toM ρ τ) _ = G 188 3 (some (.ref 1004) :: []) [vI 1] (toM ρ τ) _).trans ?_
          refine ((g_if_eq (tgt := 13) d188_3 (by decide)).trans (if_neg (by decide))).trans ?_
          refine (g_aload_n d188_6 rfl rfl).trans ?_
          refine (g_getS (v := vI 0) d188_7 (by decide) rfl).trans ?_
          refine (g_goto (tgt := 14) d188_10 (by decide)).trans ?_
          refine (g_iret d188_14 rfl (by decide)).trans ?_
          show G 186 9 (some (.ref 1004) :: []) [vI 0, vI 4] (toM ρ τ) _ = _
          refine (j_ishrL (v := 4) d186_9 (by decide)).trans ?_
          refine (g_iret d186_10 rfl rfl).trans ?_
          show G 57 25 (some (.ref 5) :: some (.ref 1004) :: some (vI 3) :: []) [vI 4, vI 3] (toM ρ τ) _ = _
          refine ((g_icmp_ge (tgt := 58) d57_25 (by decide)).trans (if_neg (by decide))).trans ?_
          refine (g_aload_n d57_28 rfl rfl).trans ?_
          refine (g_getR (q := 4) d57_29 f3_18 sh_5 (by decide) rfl).trans ?_
          refine (g_getR (q := 37) d57_32 f3_88 sh_4 (by decide) rfl).trans ?_
          refine (g_aload_n d57_35 rfl rfl).trans ?_
          refine (j_getI (v := ρ 5 6) d57_36 f3_45 sh_5 (by decide) rfl rfl).trans ?_
          refine (g_iload_n d57_39 rfl).trans ?_
          refine (j_iadd d57_40).trans ?_
          refine j_iaload (v := ρ 37 ((ρ 5 6) + 3)) d57_41 sh_37 (by omega) rfl (fun q11 => ?_)
          have q12 := hB 37 ((ρ 5 6) + 3) (by decide)
          refine (g_aload_n d57_42 rfl rfl).trans ?_
          refine (g_iload_n d57_43 rfl).trans ?_
          refine (g_cV d57_44 k3_125 rfl rfl rfl).trans ?_
          show G 187 0 (some (.ref 1004) :: some (vI 3) :: []) [] (toM ρ τ) _ = _
          refine (g_aload_n d187_0 rfl rfl).trans ?_
          refine (g_cV d187_1 k20_492 rfl rfl rfl).trans ?_
          show G 189 0 (some (.ref 1004) :: []) [] (toM ρ τ) _ = _
          refine (g_gets1 d189_0 rfl).trans ?_
          refine (show _ = _ from rfl : G 189 3 (some (.ref 1004) :: []) (.int 1 :: []) (toM ρ τ) _ = G 189 3 (some (.ref 1004) :: []) [vI 1] (toM ρ τ) _).trans ?_
          refine ((g_if_eq (tgt := 17) d189_3 (by decide)).trans (if_neg (by decide))).trans ?_
          refine (g_aload_n d189_6 rfl rfl).trans ?_
          refine (g_getS (v := vI 0) d189_7 (by decide) rfl).trans ?_
          refine ((g_if_ne (tgt := 17) d189_10 (by decide)).trans (if_pos (by decide))).trans ?_
          refine (j_iconst d189_13).trans ?_
          refine (g_goto (tgt := 18) d189_14 (by decide)).trans ?_
          refine (g_iret d189_18 rfl (by decide)).trans ?_
          show G 187 4 (some (.ref 1004) :: some (vI 3) :: []) [vI 1] (toM ρ τ) _ = _
          refine ((g_if_eq (tgt := 16) d187_4 (by decide)).trans (if_neg (by decide))).trans ?_
          refine (g_aload_n d187_7 rfl rfl).trans ?_
          refine (g_getS (v := .ref 1104) d187_8 (by decide) rfl).trans ?_
          refine (g_iload_n d187_11 rfl).trans ?_
          refine (g_cS d187_12 k20_495 rfl rfl rfl).trans ?_
          show G 191 0 (some (.ref 1104) :: some (vI 3) :: []) [] (toM ρ τ) _ = _
          refine (g_iload_n d191_0 rfl).trans ?_
          refine (g_aload_n d191_1 rfl rfl).trans ?_
          refine (j_alenL (v := 4) d191_2 (by decide) (by decide) (by decide)).trans ?_
          refine (g_cS d191_3 k21_9 rfl rfl rfl).trans ?_
          show G 190 0 (some (vI 3) :: some (vI 4) :: []) [] (toM ρ τ) _ = _
          refine (g_iload_n d190_0 rfl).trans ?_
          refine (g_iload_n d190_1 rfl).trans ?_
          refine (g_gets2 d190_2 rfl).trans ?_
          refine (g_cS d190_5 k20_1059 rfl rfl rfl).trans ?_
          show G 196 0 (some (vI 3) :: some (vI 4) :: some (.ref 1200) :: []) [] (toM ρ τ) _ = _
          refine (g_iload_n d196_0 rfl).trans ?_
          refine ((g_if_lt (tgt := 9) d196_1 (by decide)).trans (if_neg (by decide))).trans ?_
          refine (g_iload_n d196_4 rfl).trans ?_
          refine (g_iload_n d196_5 rfl).trans ?_
          refine ((g_icmp_lt (tgt := 16) d196_6 (by decide)).trans (if_pos (by decide))).trans ?_
          refine (g_iload_n d196_16 rfl).trans ?_
          refine (g_iret d196_17 rfl rfl).trans ?_
          show G 190 8 (some (vI 3) :: some (vI 4) :: []) [vI 3] (toM ρ τ) _ = _
          refine (g_pop d190_8).trans ?_
          refine (g_ret d190_9 rfl).trans ?_
          show G 191 6 (some (.ref 1104) :: some (vI 3) :: []) [] (toM ρ τ) _ = _
          refine (g_aload_n d191_6 rfl rfl).trans ?_
          refine (g_iload_n d191_7 rfl).trans ?_
          refine (j_baloadL (v := 100) d191_8 (by decide) (by decide) (by decide)).trans ?_
          refine (j_sipush d191_9 (by decide)).trans ?_
          refine (j_iandL (v := 100) d191_12 (by decide)).trans ?_
          refine (j_i2cL (v := 100) d191_13 (by decide)).trans ?_
          refine (g_iret d191_14 rfl (by decide)).trans ?_
          show G 187 15 (some (.ref 1004) :: some (vI 3) :: []) [vI 100] (toM ρ τ) _ = _
          refine (g_iret d187_15 rfl (by decide)).trans ?_
          show G 57 47 (some (.ref 5) :: some (.ref 1004) :: some (vI 3) :: []) [vI 100, vI (ρ 37 ((ρ 5 6) + 3))] (toM ρ τ) _ = _
          refine j_icmp_eq (tgt := 52) d57_47 (by decide) (by omega) (by omega) (fun q13 => ?_) (fun q13 => ?_)
          ·
            refine (j_iinc (x := 3) d57_52 rfl (by decide) rfl (lv' := (some (.ref 5) :: some (.ref 1004) :: some (vI 4) :: [])) rfl).trans ?_
            refine (g_goto (tgt := 20) d57_55 (by decide)).trans ?_
            refine (g_iload_n d57_20 rfl).trans ?_
            refine (g_aload_n d57_21 rfl rfl).trans ?_
            refine (g_cV d57_22 k3_121 rfl rfl rfl).trans ?_
            show G 186 0 (some (.ref 1004) :: []) [] (toM ρ τ) _ = _
            refine (g_aload_n d186_0 rfl rfl).trans ?_
            refine (g_getS (v := .ref 1104) d186_1 (by decide) rfl).trans ?_
            refine (j_alenL (v := 4) d186_4 (by decide) (by decide) (by decide)).trans ?_
            refine (g_aload_n d186_5 rfl rfl).trans ?_
            refine (g_cV d186_6 k20_335 rfl rfl rfl).trans ?_
            show G 188 0 (some (.ref 1004) :: []) [] (toM ρ τ) _ = _
            refine (g_gets1 d188_0 rfl).trans ?_
            refine (show _ = _ from rfl : G 188 3 (some (.ref 1004) :: []) (.int 1 :: []) (toM ρ τ) _ = G 188 3 (some (.ref 1004) :: []) [vI 1] (toM ρ τ) _).trans ?_
            refine ((g_if_eq (tgt := 13) d188_3 (by decide)).trans (if_neg (by decide))).trans ?_
            refine (g_aload_n d188_6 rfl rfl).trans ?_
            refine (g_getS (v := vI 0) d188_7 (by decide) rfl).trans ?_
            refine (g_goto (tgt := 14) d188_10 (by decide)).trans ?_
            refine (g_iret d188_14 rfl (by decide)).trans ?_
            show G 186 9 (some (.ref 1004) :: []) [vI 0, vI 4] (toM ρ τ) _ = _
            refine (j_ishrL (v := 4) d186_9 (by decide)).trans ?_
            refine (g_iret d186_10 rfl rfl).trans ?_
            show G 57 25 (some (.ref 5) :: some (.ref 1004) :: some (vI 4) :: []) [vI 4, vI 4] (toM ρ τ) _ = _
            refine ((g_icmp_ge (tgt := 58) d57_25 (by decide)).trans (if_pos (by decide))).trans ?_
            refine (j_iconst d57_58).trans ?_
            exact g_iret d57_59 rfl rfl
          ·
            refine (j_iconst d57_50).trans ?_
            exact g_iret d57_51 rfl rfl
        ·
          refine (j_iconst d57_50).trans ?_
          exact g_iret d57_51 rfl rfl
      ·
        refine (j_iconst d57_50).trans ?_
        exact g_iret d57_51 rfl rfl
    ·
      refine (j_iconst d57_50).trans ?_
      exact g_iret d57_51 rfl rfl
  ·
    refine (j_iconst d57_16).trans ?_
    exact g_iret d57_17 rfl rfl
set_option maxRecDepth 10000 in
theorem w57_5 {Q : Option Value → mm → Prop} (ρ : rm) (τ : Int64) (hB : BM ρ) : G 57 0 [some (.ref 5), some (.ref 1005)] [] (toM ρ τ) Q = (if ((ρ 5 4) - (ρ 5 6)) = 4 then (if 0 ≤ ((ρ 5 6) + 0) ∧ ((ρ 5 6) + 0) < 200 then (if (ρ 37 ((ρ 5 6) + 0)) = 115 then (if 0 ≤ ((ρ 5 6) + 1) ∧ ((ρ 5 6) + 1) < 200 then (if (ρ 37 ((ρ 5 6) + 1)) = 104 then (if 0 ≤ ((ρ 5 6) + 2) ∧ ((ρ 5 6) + 2) < 200 then (if (ρ 37 ((ρ 5 6) + 2)) = 111 then (if 0 ≤ ((ρ 5 6) + 3) ∧ ((ρ 5 6) + 3) < 200 then (if (ρ 37 ((ρ 5 6) + 3)) = 112 then Q (some (vI 1)) (toM ρ τ) else Q (some (vI 0)) (toM ρ τ)) else False) else Q (some (vI 0)) (toM ρ τ)) else False) else Q (some (vI 0)) (toM ρ τ)) else False) else Q (some (vI 0)) (toM ρ τ)) else False) else Q (some (vI 0)) (toM ρ τ)) := by
  have p1 := hB 5 4 (by decide)
  have p2 := hB 5 6 (by decide)
  refine (g_aload_n d57_0 rfl rfl).trans ?_
  refine (j_getI (v := ρ 5 4) d57_1 f3_38 sh_5 (by decide) rfl rfl).trans ?_
  refine (g_aload_n d57_4 rfl rfl).trans ?_
  refine (j_getI (v := ρ 5 6) d57_5 f3_45 sh_5 (by decide) rfl rfl).trans ?_
  refine (j_isub d57_8).trans ?_
  refine (g_aload_n d57_9 rfl rfl).trans ?_
  refine (g_cV d57_10 k3_121 rfl rfl rfl).trans ?_
  show G 186 0 (some (.ref 1005) :: []) [] (toM ρ τ) _ = _
  refine (g_aload_n d186_0 rfl rfl).trans ?_
  refine (g_getS (v := .ref 1105) d186_1 (by decide) rfl).trans ?_
  refine (j_alenL (v := 4) d186_4 (by decide) (by decide) (by decide)).trans ?_
  refine (g_aload_n d186_5 rfl rfl).trans ?_
  refine (g_cV d186_6 k20_335 rfl rfl rfl).trans ?_
  show G 188 0 (some (.ref 1005) :: []) [] (toM ρ τ) _ = _
  refine (g_gets1 d188_0 rfl).trans ?_
  refine (show _ = _ from rfl : G 188 3 (some (.ref 1005) :: []) (.int 1 :: []) (toM ρ τ) _ = G 188 3 (some (.ref 1005) :: []) [vI 1] (toM ρ τ) _).trans ?_
  refine ((g_if_eq (tgt := 13) d188_3 (by decide)).trans (if_neg (by decide))).trans ?_
  refine (g_aload_n d188_6 rfl rfl).trans ?_
  refine (g_getS (v := vI 0) d188_7 (by decide) rfl).trans ?_
  refine (g_goto (tgt := 14) d188_10 (by decide)).trans ?_
  refine (g_iret d188_14 rfl (by decide)).trans ?_
  show G 186 9 (some (.ref 1005) :: []) [vI 0, vI 4] (toM ρ τ) _ = _
  refine (j_ishrL (v := 4) d186_9 (by decide)).trans ?_
  refine (g_iret d186_10 rfl rfl).trans ?_
  show G 57 13 (some (.ref 5) :: some (.ref 1005) :: []) [vI 4, vI ((ρ 5 4) - (ρ 5 6))] (toM ρ τ) _ = _
  refine j_icmp_eq (tgt := 18) d57_13 (by decide) (by omega) (by omega) (fun q1 => ?_) (fun q1 => ?_)
  ·
    refine (j_iconst d57_18).trans ?_
    refine (g_istore_n d57_19 (by decide) rfl rfl).trans ?_
    refine (g_iload_n d57_20 rfl).trans ?_
    refine (g_aload_n d57_21 rfl rfl).trans ?_
    refine (g_cV d57_22 k3_121 rfl rfl rfl).trans ?_
    show G 186 0 (some (.ref 1005) :: []) [] (toM ρ τ) _ = _
    refine (g_aload_n d186_0 rfl rfl).trans ?_
    refine (g_getS (v := .ref 1105) d186_1 (by decide) rfl).trans ?_
    refine (j_alenL (v := 4) d186_4 (by decide) (by decide) (by decide)).trans ?_
    refine (g_aload_n d186_5 rfl rfl).trans ?_
    refine (g_cV d186_6 k20_335 rfl rfl rfl).trans ?_
    show G 188 0 (some (.ref 1005) :: []) [] (toM ρ τ) _ = _
    refine (g_gets1 d188_0 rfl).trans ?_
    refine (show _ = _ from rfl : G 188 3 (some (.ref 1005) :: []) (.int 1 :: []) (toM ρ τ) _ = G 188 3 (some (.ref 1005) :: []) [vI 1] (toM ρ τ) _).trans ?_
    refine ((g_if_eq (tgt := 13) d188_3 (by decide)).trans (if_neg (by decide))).trans ?_
    refine (g_aload_n d188_6 rfl rfl).trans ?_
    refine (g_getS (v := vI 0) d188_7 (by decide) rfl).trans ?_
    refine (g_goto (tgt := 14) d188_10 (by decide)).trans ?_
    refine (g_iret d188_14 rfl (by decide)).trans ?_
    show G 186 9 (some (.ref 1005) :: []) [vI 0, vI 4] (toM ρ τ) _ = _
    refine (j_ishrL (v := 4) d186_9 (by decide)).trans ?_
    refine (g_iret d186_10 rfl rfl).trans ?_
    show G 57 25 (some (.ref 5) :: some (.ref 1005) :: some (vI 0) :: []) [vI 4, vI 0] (toM ρ τ) _ = _
    refine ((g_icmp_ge (tgt := 58) d57_25 (by decide)).trans (if_neg (by decide))).trans ?_
    refine (g_aload_n d57_28 rfl rfl).trans ?_
    refine (g_getR (q := 4) d57_29 f3_18 sh_5 (by decide) rfl).trans ?_
    refine (g_getR (q := 37) d57_32 f3_88 sh_4 (by decide) rfl).trans ?_
    refine (g_aload_n d57_35 rfl rfl).trans ?_
    refine (j_getI (v := ρ 5 6) d57_36 f3_45 sh_5 (by decide) rfl rfl).trans ?_
    refine (g_iload_n d57_39 rfl).trans ?_
    refine (j_iadd d57_40).trans ?_
    refine j_iaload (v := ρ 37 ((ρ 5 6) + 0)) d57_41 sh_37 (by omega) rfl (fun q2 => ?_)
    have q3 := hB 37 ((ρ 5 6) + 0) (by decide)
    refine (g_aload_n d57_42 rfl rfl).trans ?_
    refine (g_iload_n d57_43 rfl).trans ?_
    refine (g_cV d57_44 k3_125 rfl rfl rfl).trans ?_
    show G 187 0 (some (.ref 1005) :: some (vI 0) :: []) [] (toM ρ τ) _ = _
    refine (g_aload_n d187_0 rfl rfl).trans ?_
    refine (g_cV d187_1 k20_492 rfl rfl rfl).trans ?_
    show G 189 0 (some (.ref 1005) :: []) [] (toM ρ τ) _ = _
    refine (g_gets1 d189_0 rfl).trans ?_
    refine (show _ = _ from rfl : G 189 3 (some (.ref 1005) :: []) (.int 1 :: []) (toM ρ τ) _ = G 189 3 (some (.ref 1005) :: []) [vI 1] (toM ρ τ) _).trans ?_
    refine ((g_if_eq (tgt := 17) d189_3 (by decide)).trans (if_neg (by decide))).trans ?_
    refine (g_aload_n d189_6 rfl rfl).trans ?_
    refine (g_getS (v := vI 0) d189_7 (by decide) rfl).trans ?_
    refine ((g_if_ne (tgt := 17) d189_10 (by decide)).trans (if_pos (by decide))).trans ?_
    refine (j_iconst d189_13).trans ?_
    refine (g_goto (tgt := 18) d189_14 (by decide)).trans ?_
    refine (g_iret d189_18 rfl (by decide)).trans ?_
    show G 187 4 (some (.ref 1005) :: some (vI 0) :: []) [vI 1] (toM ρ τ) _ = _
    refine ((g_if_eq (tgt := 16) d187_4 (by decide)).trans (if_neg (by decide))).trans ?_
    refine (g_aload_n d187_7 rfl rfl).trans ?_
    refine (g_getS (v := .ref 1105) d187_8 (by decide) rfl).trans ?_
    refine (g_iload_n d187_11 rfl).trans ?_
    refine (g_cS d187_12 k20_495 rfl rfl rfl).trans ?_
    show G 191 0 (some (.ref 1105) :: some (vI 0) :: []) [] (toM ρ τ) _ = _
    refine (g_iload_n d191_0 rfl).trans ?_
    refine (g_aload_n d191_1 rfl rfl).trans ?_
    refine (j_alenL (v := 4) d191_2 (by decide) (by decide) (by decide)).trans ?_
    refine (g_cS d191_3 k21_9 rfl rfl rfl).trans ?_
    show G 190 0 (some (vI 0) :: some (vI 4) :: []) [] (toM ρ τ) _ = _
    refine (g_iload_n d190_0 rfl).trans ?_
    refine (g_iload_n d190_1 rfl).trans ?_
    refine (g_gets2 d190_2 rfl).trans ?_
    refine (g_cS d190_5 k20_1059 rfl rfl rfl).trans ?_
    show G 196 0 (some (vI 0) :: some (vI 4) :: some (.ref 1200) :: []) [] (toM ρ τ) _ = _
    refine (g_iload_n d196_0 rfl).trans ?_
    refine ((g_if_lt (tgt := 9) d196_1 (by decide)).trans (if_neg (by decide))).trans ?_
    refine (g_iload_n d196_4 rfl).trans ?_
    refine (g_iload_n d196_5 rfl).trans ?_
    refine ((g_icmp_lt (tgt := 16) d196_6 (by decide)).trans (if_pos (by decide))).trans ?_
    refine (g_iload_n d196_16 rfl).trans ?_
    refine (g_iret d196_17 rfl rfl).trans ?_
    show G 190 8 (some (vI 0) :: some (vI 4) :: []) [vI 0] (toM ρ τ) _ = _
    refine (g_pop d190_8).trans ?_
    refine (g_ret d190_9 rfl).trans ?_
    show G 191 6 (some (.ref 1105) :: some (vI 0) :: []) [] (toM ρ τ) _ = _
    refine (g_aload_n d191_6 rfl rfl).trans ?_
    refine (g_iload_n d191_7 rfl).trans ?_
    refine (j_baloadL (v := 115) d191_8 (by decide) (by decide) (by decide)).trans ?_
    refine (j_sipush d191_9 (by decide)).trans ?_
    refine (j_iandL (v := 115) d191_12 (by decide)).trans ?_
    refine (j_i2cL (v := 115) d191_13 (by decide)).trans ?_
    refine (g_iret d191_14 rfl (by decide)).trans ?_
    show G 187 15 (some (.ref 1005) :: some (vI 0) :: []) [vI 115] (toM ρ τ) _ = _
    refine (g_iret d187_15 rfl (by decide)).trans ?_
    show G 57 47 (some (.ref 5) :: some (.ref 1005) :: some (vI 0) :: []) [vI 115, vI (ρ 37 ((ρ 5 6) + 0))] (toM ρ τ) _ = _
    refine j_icmp_eq (tgt := 52) d57_47 (by decide) (by omega) (by omega) (fun q4 => ?_) (fun q4 => ?_)
    ·
      refine (j_iinc (x := 0) d57_52 rfl (by decide) rfl (lv' := (some (.ref 5) :: some (.ref 1005) :: some (vI 1) :: [])) rfl).trans ?_
      refine (g_goto (tgt := 20) d57_55 (by decide)).trans ?_
      refine (g_iload_n d57_20 rfl).trans ?_
      refine (g_aload_n d57_21 rfl rfl).trans ?_
      refine (g_cV d57_22 k3_121 rfl rfl rfl).trans ?_
      show G 186 0 (some (.ref 1005) :: []) [] (toM ρ τ) _ = _
      refine (g_aload_n d186_0 rfl rfl).trans ?_
      refine (g_getS (v := .ref 1105) d186_1 (by decide) rfl).trans ?_
      refine (j_alenL (v := 4) d186_4 (by decide) (by decide) (by decide)).trans ?_
      refine (g_aload_n d186_5 rfl rfl).trans ?_
      refine (g_cV d186_6 k20_335 rfl rfl rfl).trans ?_
      show G 188 0 (some (.ref 1005) :: []) [] (toM ρ τ) _ = _
      refine (g_gets1 d188_0 rfl).trans ?_
      refine (show _ = _ from rfl : G 188 3 (some (.ref 1005) :: []) (.int 1 :: []) (toM ρ τ) _ = G 188 3 (some (.ref 1005) :: []) [vI 1] (toM ρ τ) _).trans ?_
      refine ((g_if_eq (tgt := 13) d188_3 (by decide)).trans (if_neg (by decide))).trans ?_
      refine (g_aload_n d188_6 rfl rfl).trans ?_
      refine (g_getS (v := vI 0) d188_7 (by decide) rfl).trans ?_
      refine (g_goto (tgt := 14) d188_10 (by decide)).trans ?_
      refine (g_iret d188_14 rfl (by decide)).trans ?_
      show G 186 9 (some (.ref 1005) :: []) [vI 0, vI 4] (toM ρ τ) _ = _
      refine (j_ishrL (v := 4) d186_9 (by decide)).trans ?_
      refine (g_iret d186_10 rfl rfl).trans ?_
      show G 57 25 (some (.ref 5) :: some (.ref 1005) :: some (vI 1) :: []) [vI 4, vI 1] (toM ρ τ) _ = _
      refine ((g_icmp_ge (tgt := 58) d57_25 (by decide)).trans (if_neg (by decide))).trans ?_
      refine (g_aload_n d57_28 rfl rfl).trans ?_
      refine (g_getR (q := 4) d57_29 f3_18 sh_5 (by decide) rfl).trans ?_
      refine (g_getR (q := 37) d57_32 f3_88 sh_4 (by decide) rfl).trans ?_
      refine (g_aload_n d57_35 rfl rfl).trans ?_
      refine (j_getI (v := ρ 5 6) d57_36 f3_45 sh_5 (by decide) rfl rfl).trans ?_
      refine (g_iload_n d57_39 rfl).trans ?_
      refine (j_iadd d57_40).trans ?_
      refine j_iaload (v := ρ 37 ((ρ 5 6) + 1)) d57_41 sh_37 (by omega) rfl (fun q5 => ?_)
      have q6 := hB 37 ((ρ 5 6) + 1) (by decide)
      refine (g_aload_n d57_42 rfl rfl).trans ?_
      refine (g_iload_n d57_43 rfl).trans ?_
      refine (g_cV d57_44 k3_125 rfl rfl rfl).trans ?_
      show G 187 0 (some (.ref 1005) :: some (vI 1) :: []) [] (toM ρ τ) _ = _
      refine (g_aload_n d187_0 rfl rfl).trans ?_
      refine (g_cV d187_1 k20_492 rfl rfl rfl).trans ?_
      show G 189 0 (some (.ref 1005) :: []) [] (toM ρ τ) _ = _
      refine (g_gets1 d189_0 rfl).trans ?_
      refine (show _ = _ from rfl : G 189 3 (some (.ref 1005) :: []) (.int 1 :: []) (toM ρ τ) _ = G 189 3 (some (.ref 1005) :: []) [vI 1] (toM ρ τ) _).trans ?_
      refine ((g_if_eq (tgt := 17) d189_3 (by decide)).trans (if_neg (by decide))).trans ?_
      refine (g_aload_n d189_6 rfl rfl).trans ?_
      refine (g_getS (v := vI 0) d189_7 (by decide) rfl).trans ?_
      refine ((g_if_ne (tgt := 17) d189_10 (by decide)).trans (if_pos (by decide))).trans ?_
      refine (j_iconst d189_13).trans ?_
      refine (g_goto (tgt := 18) d189_14 (by decide)).trans ?_
      refine (g_iret d189_18 rfl (by decide)).trans ?_
      show G 187 4 (some (.ref 1005) :: some (vI 1) :: []) [vI 1] (toM ρ τ) _ = _
      refine ((g_if_eq (tgt := 16) d187_4 (by decide)).trans (if_neg (by decide))).trans ?_
      refine (g_aload_n d187_7 rfl rfl).trans ?_
      refine (g_getS (v := .ref 1105) d187_8 (by decide) rfl).trans ?_
      refine (g_iload_n d187_11 rfl).trans ?_
      refine (g_cS d187_12 k20_495 rfl rfl rfl).trans ?_
      show G 191 0 (some (.ref 1105) :: some (vI 1) :: []) [] (toM ρ τ) _ = _
      refine (g_iload_n d191_0 rfl).trans ?_
      refine (g_aload_n d191_1 rfl rfl).trans ?_
      refine (j_alenL (v := 4) d191_2 (by decide) (by decide) (by decide)).trans ?_
      refine (g_cS d191_3 k21_9 rfl rfl rfl).trans ?_
      show G 190 0 (some (vI 1) :: some (vI 4) :: []) [] (toM ρ τ) _ = _
      refine (g_iload_n d190_0 rfl).trans ?_
      refine (g_iload_n d190_1 rfl).trans ?_
      refine (g_gets2 d190_2 rfl).trans ?_
      refine (g_cS d190_5 k20_1059 rfl rfl rfl).trans ?_
      show G 196 0 (some (vI 1) :: some (vI 4) :: some (.ref 1200) :: []) [] (toM ρ τ) _ = _
      refine (g_iload_n d196_0 rfl).trans ?_
      refine ((g_if_lt (tgt := 9) d196_1 (by decide)).trans (if_neg (by decide))).trans ?_
      refine (g_iload_n d196_4 rfl).trans ?_
      refine (g_iload_n d196_5 rfl).trans ?_
      refine ((g_icmp_lt (tgt := 16) d196_6 (by decide)).trans (if_pos (by decide))).trans ?_
      refine (g_iload_n d196_16 rfl).trans ?_
      refine (g_iret d196_17 rfl rfl).trans ?_
      show G 190 8 (some (vI 1) :: some (vI 4) :: []) [vI 1] (toM ρ τ) _ = _
      refine (g_pop d190_8).trans ?_
      refine (g_ret d190_9 rfl).trans ?_
      show G 191 6 (some (.ref 1105) :: some (vI 1) :: []) [] (toM ρ τ) _ = _
      refine (g_aload_n d191_6 rfl rfl).trans ?_
      refine (g_iload_n d191_7 rfl).trans ?_
      refine (j_baloadL (v := 104) d191_8 (by decide) (by decide) (by decide)).trans ?_
      refine (j_sipush d191_9 (by decide)).trans ?_
      refine (j_iandL (v := 104) d191_12 (by decide)).trans ?_
      refine (j_i2cL (v := 104) d191_13 (by decide)).trans ?_
      refine (g_iret d191_14 rfl (by decide)).trans ?_
      show G 187 15 (some (.ref 1005) :: some (vI 1) :: []) [vI 104] (toM ρ τ) _ = _
      refine (g_iret d187_15 rfl (by decide)).trans ?_
      show G 57 47 (some (.ref 5) :: some (.ref 1005) :: some (vI 1) :: []) [vI 104, vI (ρ 37 ((ρ 5 6) + 1))] (toM ρ τ) _ = _
      refine j_icmp_eq (tgt := 52) d57_47 (by decide) (by omega) (by omega) (fun q7 => ?_) (fun q7 => ?_)
      ·
        refine (j_iinc (x := 1) d57_52 rfl (by decide) rfl (lv' := (some (.ref 5) :: some (.ref 1005) :: some (vI 2) :: [])) rfl).trans ?_
        refine (g_goto (tgt := 20) d57_55 (by decide)).trans ?_
        refine (g_iload_n d57_20 rfl).trans ?_
        refine (g_aload_n d57_21 rfl rfl).trans ?_
        refine (g_cV d57_22 k3_121 rfl rfl rfl).trans ?_
        show G 186 0 (some (.ref 1005) :: []) [] (toM ρ τ) _ = _
        refine (g_aload_n d186_0 rfl rfl).trans ?_
        refine (g_getS (v := .ref 1105) d186_1 (by decide) rfl).trans ?_
        refine (j_alenL (v := 4) d186_4 (by decide) (by decide) (by decide)).trans ?_
        refine (g_aload_n d186_5 rfl rfl).trans ?_
        refine (g_cV d186_6 k20_335 rfl rfl rfl).trans ?_
        show G 188 0 (some (.ref 1005) :: []) [] (toM ρ τ) _ = _
        refine (g_gets1 d188_0 rfl).trans ?_
        refine (show _ = _ from rfl : G 188 3 (some (.ref 1005) :: []) (.int 1 :: []) (toM ρ τ) _ = G 188 3 (some (.ref 1005) :: []) [vI 1] (toM ρ τ) _).trans ?_
        refine ((g_if_eq (tgt := 13) d188_3 (by decide)).trans (if_neg (by decide))).trans ?_
        refine (g_aload_n d188_6 rfl rfl).trans ?_
        refine (g_getS (v := vI 0) d188_7 (by decide) rfl).trans ?_
        refine (g_goto (tgt := 14) d188_10 (by decide)).trans ?_
        refine (g_iret d188_14 rfl (by decide)).trans ?_
        show G 186 9 (some (.ref 1005) :: []) [vI 0, vI 4] (toM ρ τ) _ = _
        refine (j_ishrL (v := 4) d186_9 (by decide)).trans ?_
        refine (g_iret d186_10 rfl rfl).trans ?_
        show G 57 25 (some (.ref 5) :: some (.ref 1005) :: some (vI 2) :: []) [vI 4, vI 2] (toM ρ τ) _ = _
        refine ((g_icmp_ge (tgt := 58) d57_25 (by decide)).trans (if_neg (by decide))).trans ?_
        refine (g_aload_n d57_28 rfl rfl).trans ?_
        refine (g_getR (q := 4) d57_29 f3_18 sh_5 (by decide) rfl).trans ?_
        refine (g_getR (q := 37) d57_32 f3_88 sh_4 (by decide) rfl).trans ?_
        refine (g_aload_n d57_35 rfl rfl).trans ?_
        refine (j_getI (v := ρ 5 6) d57_36 f3_45 sh_5 (by decide) rfl rfl).trans ?_
        refine (g_iload_n d57_39 rfl).trans ?_
        refine (j_iadd d57_40).trans ?_
        refine j_iaload (v := ρ 37 ((ρ 5 6) + 2)) d57_41 sh_37 (by omega) rfl (fun q8 => ?_)
        have q9 := hB 37 ((ρ 5 6) + 2) (by decide)
        refine (g_aload_n d57_42 rfl rfl).trans ?_
        refine (g_iload_n d57_43 rfl).trans ?_
        refine (g_cV d57_44 k3_125 rfl rfl rfl).trans ?_
        show G 187 0 (some (.ref 1005) :: some (vI 2) :: []) [] (toM ρ τ) _ = _
        refine (g_aload_n d187_0 rfl rfl).trans ?_
        refine (g_cV d187_1 k20_492 rfl rfl rfl).trans ?_
        show G 189 0 (some (.ref 1005) :: []) [] (toM ρ τ) _ = _
        refine (g_gets1 d189_0 rfl).trans ?_
        refine (show _ = _ from rfl : G 189 3 (some (.ref 1005) :: []) (.int 1 :: []) (toM ρ τ) _ = G 189 3 (some (.ref 1005) :: []) [vI 1] (toM ρ τ) _).trans ?_
        refine ((g_if_eq (tgt := 17) d189_3 (by decide)).trans (if_neg (by decide))).trans ?_
        refine (g_aload_n d189_6 rfl rfl).trans ?_
        refine (g_getS (v := vI 0) d189_7 (by decide) rfl).trans ?_
        refine ((g_if_ne (tgt := 17) d189_10 (by decide)).trans (if_pos (by decide))).trans ?_
        refine (j_iconst d189_13).trans ?_
        refine (g_goto (tgt := 18) d189_14 (by decide)).trans ?_
        refine (g_iret d189_18 rfl (by decide)).trans ?_
        show G 187 4 (some (.ref 1005) :: some (vI 2) :: []) [vI 1] (toM ρ τ) _ = _
        refine ((g_if_eq (tgt := 16) d187_4 (by decide)).trans (if_neg (by decide))).trans ?_
        refine (g_aload_n d187_7 rfl rfl).trans ?_
        refine (g_getS (v := .ref 1105) d187_8 (by decide) rfl).trans ?_
        refine (g_iload_n d187_11 rfl).trans ?_
        refine (g_cS d187_12 k20_495 rfl rfl rfl).trans ?_
        show G 191 0 (some (.ref 1105) :: some (vI 2) :: []) [] (toM ρ τ) _ = _
        refine (g_iload_n d191_0 rfl).trans ?_
        refine (g_aload_n d191_1 rfl rfl).trans ?_
        refine (j_alenL (v := 4) d191_2 (by decide) (by decide) (by decide)).trans ?_
        refine (g_cS d191_3 k21_9 rfl rfl rfl).trans ?_
        show G 190 0 (some (vI 2) :: some (vI 4) :: []) [] (toM ρ τ) _ = _
        refine (g_iload_n d190_0 rfl).trans ?_
        refine (g_iload_n d190_1 rfl).trans ?_
        refine (g_gets2 d190_2 rfl).trans ?_
        refine (g_cS d190_5 k20_1059 rfl rfl rfl).trans ?_
        show G 196 0 (some (vI 2) :: some (vI 4) :: some (.ref 1200) :: []) [] (toM ρ τ) _ = _
        refine (g_iload_n d196_0 rfl).trans ?_
        refine ((g_if_lt (tgt := 9) d196_1 (by decide)).trans (if_neg (by decide))).trans ?_
        refine (g_iload_n d196_4 rfl).trans ?_
        refine (g_iload_n d196_5 rfl).trans ?_
        refine ((g_icmp_lt (tgt := 16) d196_6 (by decide)).trans (if_pos (by decide))).trans ?_
        refine (g_iload_n d196_16 rfl).trans ?_
        refine (g_iret d196_17 rfl rfl).trans ?_
        show G 190 8 (some (vI 2) :: some (vI 4) :: []) [vI 2] (toM ρ τ) _ = _
        refine (g_pop d190_8).trans ?_
        refine (g_ret d190_9 rfl).trans ?_
        show G 191 6 (some (.ref 1105) :: some (vI 2) :: []) [] (toM ρ τ) _ = _
        refine (g_aload_n d191_6 rfl rfl).trans ?_
        refine (g_iload_n d191_7 rfl).trans ?_
        refine (j_baloadL (v := 111) d191_8 (by decide) (by decide) (by decide)).trans ?_
        refine (j_sipush d191_9 (by decide)).trans ?_
        refine (j_iandL (v := 111) d191_12 (by decide)).trans ?_
        refine (j_i2cL (v := 111) d191_13 (by decide)).trans ?_
        refine (g_iret d191_14 rfl (by decide)).trans ?_
        show G 187 15 (some (.ref 1005) :: some (vI 2) :: []) [vI 111] (toM ρ τ) _ = _
        refine (g_iret d187_15 rfl (by decide)).trans ?_
        show G 57 47 (some (.ref 5) :: some (.ref 1005) :: some (vI 2) :: []) [vI 111, vI (ρ 37 ((ρ 5 6) + 2))] (toM ρ τ) _ = _
        refine j_icmp_eq (tgt := 52) d57_47 (by decide) (by omega) (by omega) (fun q10 => ?_) (fun q10 => ?_)
        ·
          refine (j_iinc (x := 2) d57_52 rfl (by decide) rfl (lv' := (some (.ref 5) :: some (.ref 1005) :: some (vI 3) :: [])) rfl).trans ?_
          refine (g_goto (tgt := 20) d57_55 (by decide)).trans ?_
          refine (g_iload_n d57_20 rfl).trans ?_
          refine (g_aload_n d57_21 rfl rfl).trans ?_
          refine (g_cV d57_22 k3_121 rfl rfl rfl).trans ?_
          show G 186 0 (some (.ref 1005) :: []) [] (toM ρ τ) _ = _
          refine (g_aload_n d186_0 rfl rfl).trans ?_
          refine (g_getS (v := .ref 1105) d186_1 (by decide) rfl).trans ?_
          refine (j_alenL (v := 4) d186_4 (by decide) (by decide) (by decide)).trans ?_
          refine (g_aload_n d186_5 rfl rfl).trans ?_
          refine (g_cV d186_6 k20_335 rfl rfl rfl).trans ?_
          show G 188 0 (some (.ref 1005) :: []) [] (toM ρ τ) _ = _
          refine (g_gets1 d188_0 rfl).trans ?_
          refine (show _ = _ from rfl : G 188 3 (some (.ref 1005) :: []) (.int 1 :: []) (toM ρ τ) _ = G 188 3 (some (.ref 1005) :: []) [vI 1] (toM ρ τ) _).trans ?_
          refine ((g_if_eq (tgt := 13) d188_3 (by decide)).trans (if_neg (by decide))).trans ?_
          refine (g_aload_n d188_6 rfl rfl).trans ?_
          refine (g_getS (v := vI 0) d188_7 (by decide) rfl).trans ?_
          refine (g_goto (tgt := 14) d188_10 (by decide)).trans ?_
          refine (g_iret d188_14 rfl (by decide)).trans ?_
          show G 186 9 (some (.ref 1005) :: []) [vI 0, vI 4] (toM ρ τ) _ = _
          refine (j_ishrL (v := 4) d186_9 (by decide)).trans ?_
          refine (g_iret d186_10 rfl rfl).trans ?_
          show G 57 25 (some (.ref 5) :: some (.ref 1005) :: some (vI 3) :: []) [vI 4, vI 3] (toM ρ τ) _ = _
          refine ((g_icmp_ge (tgt := 58) d57_25 (by decide)).trans (if_neg (by decide))).trans ?_
          refine (g_aload_n d57_28 rfl rfl).trans ?_
          refine (g_getR (q := 4) d57_29 f3_18 sh_5 (by decide) rfl).trans ?_
          refine (g_getR (q := 37) d57_32 f3_88 sh_4 (by decide) rfl).trans ?_
          refine (g_aload_n d57_35 rfl rfl).trans ?_
          refine (j_getI (v := ρ 5 6) d57_36 f3_45 sh_5 (by decide) rfl rfl).trans ?_
          refine (g_iload_n d57_39 rfl).trans ?_
          refine (j_iadd d57_40).trans ?_
          refine j_iaload (v := ρ 37 ((ρ 5 6) + 3)) d57_41 sh_37 (by omega) rfl (fun q11 => ?_)
          have q12 := hB 37 ((ρ 5 6) + 3) (by decide)
          refine (g_aload_n d57_42 rfl rfl).trans ?_
          refine (g_iload_n d57_43 rfl).trans ?_
          refine (g_cV d57_44 k3_125 rfl rfl rfl).trans ?_
          show G 187 0 (some (.ref 1005) :: some (vI 3) :: []) [] (toM ρ τ) _ = _
          refine (g_aload_n d187_0 rfl rfl).trans ?_
          refine (g_cV d187_1 k20_492 rfl rfl rfl).trans ?_
          show G 189 0 (some (.ref 1005) :: []) [] (toM ρ τ) _ = _
          refine (g_gets1 d189_0 rfl).trans ?_
          refine (show _ = _ from rfl : G 189 3 (some (.ref 1005) :: []) (.int 1 :: []) (toM ρ τ) _ = G 189 3 (some (.ref 1005) :: []) [vI 1] (toM ρ τ) _).trans ?_
          refine ((g_if_eq (tgt := 17) d189_3 (by decide)).trans (if_neg (by decide))).trans ?_
          refine (g_aload_n d189_6 rfl rfl).trans ?_
          refine (g_getS (v := vI 0) d189_7 (by decide) rfl).trans ?_
          refine ((g_if_ne (tgt := 17) d189_10 (by decide)).trans (if_pos (by decide))).trans ?_
          refine (j_iconst d189_13).trans ?_
          refine (g_goto (tgt := 18) d189_14 (by decide)).trans ?_
          refine (g_iret d189_18 rfl (by decide)).trans ?_
          show G 187 4 (some (.ref 1005) :: some (vI 3) :: []) [vI 1] (toM ρ τ) _ = _
          refine ((g_if_eq (tgt := 16) d187_4 (by decide)).trans (if_neg (by decide))).trans ?_
          refine (g_aload_n d187_7 rfl rfl).trans ?_
          refine (g_getS (v := .ref 1105) d187_8 (by decide) rfl).trans ?_
          refine (g_iload_n d187_11 rfl).trans ?_
          refine (g_cS d187_12 k20_495 rfl rfl rfl).trans ?_
          show G 191 0 (some (.ref 1105) :: some (vI 3) :: []) [] (toM ρ τ) _ = _
          refine (g_iload_n d191_0 rfl).trans ?_
          refine (g_aload_n d191_1 rfl rfl).trans ?_
          refine (j_alenL (v := 4) d191_2 (by decide) (by decide) (by decide)).trans ?_
          refine (g_cS d191_3 k21_9 rfl rfl rfl).trans ?_
          show G 190 0 (some (vI 3) :: some (vI 4) :: []) [] (toM ρ τ) _ = _
          refine (g_iload_n d190_0 rfl).trans ?_
          refine (g_iload_n d190_1 rfl).trans ?_
          refine (g_gets2 d190_2 rfl).trans ?_
          refine (g_cS d190_5 k20_1059 rfl rfl rfl).trans ?_
          show G 196 0 (some (vI 3) :: some (vI 4) :: some (.ref 1200) :: []) [] (toM ρ τ) _ = _
          refine (g_iload_n d196_0 rfl).trans ?_
          refine ((g_if_lt (tgt := 9) d196_1 (by decide)).trans (if_neg (by decide))).trans ?_
          refine (g_iload_n d196_4 rfl).trans ?_
          refine (g_iload_n d196_5 rfl).trans ?_
          refine ((g_icmp_lt (tgt := 16) d196_6 (by decide)).trans (if_pos (by decide))).trans ?_
          refine (g_iload_n d196_16 rfl).trans ?_
          refine (g_iret d196_17 rfl rfl).trans ?_
          show G 190 8 (some (vI 3) :: some (vI 4) :: []) [vI 3] (toM ρ τ) _ = _
          refine (g_pop d190_8).trans ?_
          refine (g_ret d190_9 rfl).trans ?_
          show G 191 6 (some (.ref 1105) :: some (vI 3) :: []) [] (toM ρ τ) _ = _
          refine (g_aload_n d191_6 rfl rfl).trans ?_
          refine (g_iload_n d191_7 rfl).trans ?_
          refine (j_baloadL (v := 112) d191_8 (by decide) (by decide) (by decide)).trans ?_
          refine (j_sipush d191_9 (by decide)).trans ?_
          refine (j_iandL (v := 112) d191_12 (by decide)).trans ?_
          refine (j_i2cL (v := 112) d191_13 (by decide)).trans ?_
          refine (g_iret d191_14 rfl (by decide)).trans ?_
          show G 187 15 (some (.ref 1005) :: some (vI 3) :: []) [vI 112] (toM ρ τ) _ = _
          refine (g_iret d187_15 rfl (by decide)).trans ?_
          show G 57 47 (some (.ref 5) :: some (.ref 1005) :: some (vI 3) :: []) [vI 112, vI (ρ 37 ((ρ 5 6) + 3))] (toM ρ τ) _ = _
          refine j_icmp_eq (tgt := 52) d57_47 (by decide) (by omega) (by omega) (fun q13 => ?_) (fun q13 => ?_)
          ·
            refine (j_iinc (x := 3) d57_52 rfl (by decide) rfl (lv' := (some (.ref 5) :: some (.ref 1005) :: some (vI 4) :: [])) rfl).trans ?_
            refine (g_goto (tgt := 20) d57_55 (by decide)).trans ?_
            refine (g_iload_n d57_20 rfl).trans ?_
            refine (g_aload_n d57_21 rfl rfl).trans ?_
            refine (g_cV d57_22 k3_121 rfl rfl rfl).trans ?_
            show G 186 0 (some (.ref 1005) :: []) [] (toM ρ τ) _ = _
            refine (g_aload_n d186_0 rfl rfl).trans ?_
            refine (g_getS (v := .ref 1105) d186_1 (by decide) rfl).trans ?_
            refine (j_alenL (v := 4) d186_4 (by decide) (by decide) (by decide)).trans ?_
            refine (g_aload_n d186_5 rfl rfl).trans ?_
            refine (g_cV d186_6 k20_335 rfl rfl rfl).trans ?_
            show G 188 0 (some (.ref 1005) :: []) [] (toM ρ τ) _ = _
            refine (g_gets1 d188_0 rfl).trans ?_
            refine (show _ = _ from rfl : G 188 3 (some (.ref 1005) :: []) (.int 1 :: []) (toM ρ τ) _ = G 188 3 (some (.ref 1005) :: []) [vI 1] (toM ρ τ) _).trans ?_
            refine ((g_if_eq (tgt := 13) d188_3 (by decide)).trans (if_neg (by decide))).trans ?_
            refine (g_aload_n d188_6 rfl rfl).trans ?_
            refine (g_getS (v := vI 0) d188_7 (by decide) rfl).trans ?_
            refine (g_goto (tgt := 14) d188_10 (by decide)).trans ?_
            refine (g_iret d188_14 rfl (by decide)).trans ?_
            show G 186 9 (some (.ref 1005) :: []) [vI 0, vI 4] (toM ρ τ) _ = _
            refine (j_ishrL (v := 4) d186_9 (by decide)).trans ?_
            refine (g_iret d186_10 rfl rfl).trans ?_
            show G 57 25 (some (.ref 5) :: some (.ref 1005) :: some (vI 4) :: []) [vI 4, vI 4] (toM ρ τ) _ = _
            refine ((g_icmp_ge (tgt := 58) d57_25 (by decide)).trans (if_pos (by decide))).trans ?_
            refine (j_iconst d57_58).trans ?_
            exact g_iret d57_59 rfl rfl
          ·
            refine (j_iconst d57_50).trans ?_
            exact g_iret d57_51 rfl rfl
        ·
          refine (j_iconst d57_50).trans ?_
          exact g_iret d57_51 rfl rfl
      ·
        refine (j_iconst d57_50).trans ?_
        exact g_iret d57_51 rfl rfl
    ·
      refine (j_iconst d57_50).trans ?_
      exact g_iret d57_51 rfl rfl
  ·
    refine (j_iconst d57_16).trans ?_
    exact g_iret d57_17 rfl rfl
set_option maxRecDepth 10000 in
theorem w57_6 {Q : Option Value → mm → Prop} (ρ : rm) (τ : Int64) (hB : BM ρ) : G 57 0 [some (.ref 5), some (.ref 1006)] [] (toM ρ τ) Q = (if ((ρ 5 4) - (ρ 5 6)) = 4 then (if 0 ≤ ((ρ 5 6) + 0) ∧ ((ρ 5 6) + 0) < 200 then (if (ρ 37 ((ρ 5 6) + 0)) = 116 then (if 0 ≤ ((ρ 5 6) + 1) ∧ ((ρ 5 6) + 1) < 200 then (if (ρ 37 ((ρ 5 6) + 1)) = 105 then (if 0 ≤ ((ρ 5 6) + 2) ∧ ((ρ 5 6) + 2) < 200 then (if (ρ 37 ((ρ 5 6) + 2)) = 100 then (if 0 ≤ ((ρ 5 6) + 3) ∧ ((ρ 5 6) + 3) < 200 then (if (ρ 37 ((ρ 5 6) + 3)) = 121 then Q (some (vI 1)) (toM ρ τ) else Q (some (vI 0)) (toM ρ τ)) else False) else Q (some (vI 0)) (toM ρ τ)) else False) else Q (some (vI 0)) (toM ρ τ)) else False) else Q (some (vI 0)) (toM ρ τ)) else False) else Q (some (vI 0)) (toM ρ τ)) := by
  have p1 := hB 5 4 (by decide)
  have p2 := hB 5 6 (by decide)
  refine (g_aload_n d57_0 rfl rfl).trans ?_
  refine (j_getI (v := ρ 5 4) d57_1 f3_38 sh_5 (by decide) rfl rfl).trans ?_
  refine (g_aload_n d57_4 rfl rfl).trans ?_
  refine (j_getI (v := ρ 5 6) d57_5 f3_45 sh_5 (by decide) rfl rfl).trans ?_
  refine (j_isub d57_8).trans ?_
  refine (g_aload_n d57_9 rfl rfl).trans ?_
  refine (g_cV d57_10 k3_121 rfl rfl rfl).trans ?_
  show G 186 0 (some (.ref 1006) :: []) [] (toM ρ τ) _ = _
  refine (g_aload_n d186_0 rfl rfl).trans ?_
  refine (g_getS (v := .ref 1106) d186_1 (by decide) rfl).trans ?_
  refine (j_alenL (v := 4) d186_4 (by decide) (by decide) (by decide)).trans ?_
  refine (g_aload_n d186_5 rfl rfl).trans ?_
  refine (g_cV d186_6 k20_335 rfl rfl rfl).trans ?_
  show G 188 0 (some (.ref 1006) :: []) [] (toM ρ τ) _ = _
  refine (g_gets1 d188_0 rfl).trans ?_
  refine (show _ = _ from rfl : G 188 3 (some (.ref 1006) :: []) (.int 1 :: []) (toM ρ τ) _ = G 188 3 (some (.ref 1006) :: []) [vI 1] (toM ρ τ) _).trans ?_
  refine ((g_if_eq (tgt := 13) d188_3 (by decide)).trans (if_neg (by decide))).trans ?_
  refine (g_aload_n d188_6 rfl rfl).trans ?_
  refine (g_getS (v := vI 0) d188_7 (by decide) rfl).trans ?_
  refine (g_goto (tgt := 14) d188_10 (by decide)).trans ?_
  refine (g_iret d188_14 rfl (by decide)).trans ?_
  show G 186 9 (some (.ref 1006) :: []) [vI 0, vI 4] (toM ρ τ) _ = _
  refine (j_ishrL (v := 4) d186_9 (by decide)).trans ?_
  refine (g_iret d186_10 rfl rfl).trans ?_
  show G 57 13 (some (.ref 5) :: some (.ref 1006) :: []) [vI 4, vI ((ρ 5 4) - (ρ 5 6))] (toM ρ τ) _ = _
  refine j_icmp_eq (tgt := 18) d57_13 (by decide) (by omega) (by omega) (fun q1 => ?_) (fun q1 => ?_)
  ·
    refine (j_iconst d57_18).trans ?_
    refine (g_istore_n d57_19 (by decide) rfl rfl).trans ?_
    refine (g_iload_n d57_20 rfl).trans ?_
    refine (g_aload_n d57_21 rfl rfl).trans ?_
    refine (g_cV d57_22 k3_121 rfl rfl rfl).trans ?_
    show G 186 0 (some (.ref 1006) :: []) [] (toM ρ τ) _ = _
    refine (g_aload_n d186_0 rfl rfl).trans ?_
    refine (g_getS (v := .ref 1106) d186_1 (by decide) rfl).trans ?_
    refine (j_alenL (v := 4) d186_4 (by decide) (by decide) (by decide)).trans ?_
    refine (g_aload_n d186_5 rfl rfl).trans ?_
    refine (g_cV d186_6 k20_335 rfl rfl rfl).trans ?_
    show G 188 0 (some (.ref 1006) :: []) [] (toM ρ τ) _ = _
    refine (g_gets1 d188_0 rfl).trans ?_
    refine (show _ = _ from rfl : G 188 3 (some (.ref 1006) :: []) (.int 1 :: []) (toM ρ τ) _ = G 188 3 (some (.ref 1006) :: []) [vI 1] (toM ρ τ) _).trans ?_
    refine ((g_if_eq (tgt := 13) d188_3 (by decide)).trans (if_neg (by decide))).trans ?_
    refine (g_aload_n d188_6 rfl rfl).trans ?_
    refine (g_getS (v := vI 0) d188_7 (by decide) rfl).trans ?_
    refine (g_goto (tgt := 14) d188_10 (by decide)).trans ?_
    refine (g_iret d188_14 rfl (by decide)).trans ?_
    show G 186 9 (some (.ref 1006) :: []) [vI 0, vI 4] (toM ρ τ) _ = _
    refine (j_ishrL (v := 4) d186_9 (by decide)).trans ?_
    refine (g_iret d186_10 rfl rfl).trans ?_
    show G 57 25 (some (.ref 5) :: some (.ref 1006) :: some (vI 0) :: []) [vI 4, vI 0] (toM ρ τ) _ = _
    refine ((g_icmp_ge (tgt := 58) d57_25 (by decide)).trans (if_neg (by decide))).trans ?_
    refine (g_aload_n d57_28 rfl rfl).trans ?_
    refine (g_getR (q := 4) d57_29 f3_18 sh_5 (by decide) rfl).trans ?_
    refine (g_getR (q := 37) d57_32 f3_88 sh_4 (by decide) rfl).trans ?_
    refine (g_aload_n d57_35 rfl rfl).trans ?_
    refine (j_getI (v := ρ 5 6) d57_36 f3_45 sh_5 (by decide) rfl rfl).trans ?_
    refine (g_iload_n d57_39 rfl).trans ?_
    refine (j_iadd d57_40).trans ?_
    refine j_iaload (v := ρ 37 ((ρ 5 6) + 0)) d57_41 sh_37 (by omega) rfl (fun q2 => ?_)
    have q3 := hB 37 ((ρ 5 6) + 0) (by decide)
    refine (g_aload_n d57_42 rfl rfl).trans ?_
    refine (g_iload_n d57_43 rfl).trans ?_
    refine (g_cV d57_44 k3_125 rfl rfl rfl).trans ?_
    show G 187 0 (some (.ref 1006) :: some (vI 0) :: []) [] (toM ρ τ) _ = _
    refine (g_aload_n d187_0 rfl rfl).trans ?_
    refine (g_cV d187_1 k20_492 rfl rfl rfl).trans ?_
    show G 189 0 (some (.ref 1006) :: []) [] (toM ρ τ) _ = _
    refine (g_gets1 d189_0 rfl).trans ?_
    refine (show _ = _ from rfl : G 189 3 (some (.ref 1006) :: []) (.int 1 :: []) (toM ρ τ) _ = G 189 3 (some (.ref 1006) :: []) [vI 1] (toM ρ τ) _).trans ?_
    refine ((g_if_eq (tgt := 17) d189_3 (by decide)).trans (if_neg (by decide))).trans ?_
    refine (g_aload_n d189_6 rfl rfl).trans ?_
    refine (g_getS (v := vI 0) d189_7 (by decide) rfl).trans ?_
    refine ((g_if_ne (tgt := 17) d189_10 (by decide)).trans (if_pos (by decide))).trans ?_
    refine (j_iconst d189_13).trans ?_
    refine (g_goto (tgt := 18) d189_14 (by decide)).trans ?_
    refine (g_iret d189_18 rfl (by decide)).trans ?_
    show G 187 4 (some (.ref 1006) :: some (vI 0) :: []) [vI 1] (toM ρ τ) _ = _
    refine ((g_if_eq (tgt := 16) d187_4 (by decide)).trans (if_neg (by decide))).trans ?_
    refine (g_aload_n d187_7 rfl rfl).trans ?_
    refine (g_getS (v := .ref 1106) d187_8 (by decide) rfl).trans ?_
    refine (g_iload_n d187_11 rfl).trans ?_
    refine (g_cS d187_12 k20_495 rfl rfl rfl).trans ?_
    show G 191 0 (some (.ref 1106) :: some (vI 0) :: []) [] (toM ρ τ) _ = _
    refine (g_iload_n d191_0 rfl).trans ?_
    refine (g_aload_n d191_1 rfl rfl).trans ?_
    refine (j_alenL (v := 4) d191_2 (by decide) (by decide) (by decide)).trans ?_
    refine (g_cS d191_3 k21_9 rfl rfl rfl).trans ?_
    show G 190 0 (some (vI 0) :: some (vI 4) :: []) [] (toM ρ τ) _ = _
    refine (g_iload_n d190_0 rfl).trans ?_
    refine (g_iload_n d190_1 rfl).trans ?_
    refine (g_gets2 d190_2 rfl).trans ?_
    refine (g_cS d190_5 k20_1059 rfl rfl rfl).trans ?_
    show G 196 0 (some (vI 0) :: some (vI 4) :: some (.ref 1200) :: []) [] (toM ρ τ) _ = _
    refine (g_iload_n d196_0 rfl).trans ?_
    refine ((g_if_lt (tgt := 9) d196_1 (by decide)).trans (if_neg (by decide))).trans ?_
    refine (g_iload_n d196_4 rfl).trans ?_
    refine (g_iload_n d196_5 rfl).trans ?_
    refine ((g_icmp_lt (tgt := 16) d196_6 (by decide)).trans (if_pos (by decide))).trans ?_
    refine (g_iload_n d196_16 rfl).trans ?_
    refine (g_iret d196_17 rfl rfl).trans ?_
    show G 190 8 (some (vI 0) :: some (vI 4) :: []) [vI 0] (toM ρ τ) _ = _
    refine (g_pop d190_8).trans ?_
    refine (g_ret d190_9 rfl).trans ?_
    show G 191 6 (some (.ref 1106) :: some (vI 0) :: []) [] (toM ρ τ) _ = _
    refine (g_aload_n d191_6 rfl rfl).trans ?_
    refine (g_iload_n d191_7 rfl).trans ?_
    refine (j_baloadL (v := 116) d191_8 (by decide) (by decide) (by decide)).trans ?_
    refine (j_sipush d191_9 (by decide)).trans ?_
    refine (j_iandL (v := 116) d191_12 (by decide)).trans ?_
    refine (j_i2cL (v := 116) d191_13 (by decide)).trans ?_
    refine (g_iret d191_14 rfl (by decide)).trans ?_
    show G 187 15 (some (.ref 1006) :: some (vI 0) :: []) [vI 116] (toM ρ τ) _ = _
    refine (g_iret d187_15 rfl (by decide)).trans ?_
    show G 57 47 (some (.ref 5) :: some (.ref 1006) :: some (vI 0) :: []) [vI 116, vI (ρ 37 ((ρ 5 6) + 0))] (toM ρ τ) _ = _
    refine j_icmp_eq (tgt := 52) d57_47 (by decide) (by omega) (by omega) (fun q4 => ?_) (fun q4 => ?_)
    ·
      refine (j_iinc (x := 0) d57_52 rfl (by decide) rfl (lv' := (some (.ref 5) :: some (.ref 1006) :: some (vI 1) :: [])) rfl).trans ?_
      refine (g_goto (tgt := 20) d57_55 (by decide)).trans ?_
      refine (g_iload_n d57_20 rfl).trans ?_
      refine (g_aload_n d57_21 rfl rfl).trans ?_
      refine (g_cV d57_22 k3_121 rfl rfl rfl).trans ?_
      show G 186 0 (some (.ref 1006) :: []) [] (toM ρ τ) _ = _
      refine (g_aload_n d186_0 rfl rfl).trans ?_
      refine (g_getS (v := .ref 1106) d186_1 (by decide) rfl).trans ?_
      refine (j_alenL (v := 4) d186_4 (by decide) (by decide) (by decide)).trans ?_
      refine (g_aload_n d186_5 rfl rfl).trans ?_
      refine (g_cV d186_6 k20_335 rfl rfl rfl).trans ?_
      show G 188 0 (some (.ref 1006) :: []) [] (toM ρ τ) _ = _
      refine (g_gets1 d188_0 rfl).trans ?_
      refine (show _ = _ from rfl : G 188 3 (some (.ref 1006) :: []) (.int 1 :: []) (toM ρ τ) _ = G 188 3 (some (.ref 1006) :: []) [vI 1] (toM ρ τ) _).trans ?_
      refine ((g_if_eq (tgt := 13) d188_3 (by decide)).trans (if_neg (by decide))).trans ?_
      refine (g_aload_n d188_6 rfl rfl).trans ?_
      refine (g_getS (v := vI 0) d188_7 (by decide) rfl).trans ?_
      refine (g_goto (tgt := 14) d188_10 (by decide)).trans ?_
      refine (g_iret d188_14 rfl (by decide)).trans ?_
      show G 186 9 (some (.ref 1006) :: []) [vI 0, vI 4] (toM ρ τ) _ = _
      refine (j_ishrL (v := 4) d186_9 (by decide)).trans ?_
      refine (g_iret d186_10 rfl rfl).trans ?_
      show G 57 25 (some (.ref 5) :: some (.ref 1006) :: some (vI 1) :: []) [vI 4, vI 1] (toM ρ τ) _ = _
      refine ((g_icmp_ge (tgt := 58) d57_25 (by decide)).trans (if_neg (by decide))).trans ?_
      refine (g_aload_n d57_28 rfl rfl).trans ?_
      refine (g_getR (q := 4) d57_29 f3_18 sh_5 (by decide) rfl).trans ?_
      refine (g_getR (q := 37) d57_32 f3_88 sh_4 (by decide) rfl).trans ?_
      refine (g_aload_n d57_35 rfl rfl).trans ?_
      refine (j_getI (v := ρ 5 6) d57_36 f3_45 sh_5 (by decide) rfl rfl).trans ?_
      refine (g_iload_n d57_39 rfl).trans ?_
      refine (j_iadd d57_40).trans ?_
      refine j_iaload (v := ρ 37 ((ρ 5 6) + 1)) d57_41 sh_37 (by omega) rfl (fun q5 => ?_)
      have q6 := hB 37 ((ρ 5 6) + 1) (by decide)
      refine (g_aload_n d57_42 rfl rfl).trans ?_
      refine (g_iload_n d57_43 rfl).trans ?_
      refine (g_cV d57_44 k3_125 rfl rfl rfl).trans ?_
      show G 187 0 (some (.ref 1006) :: some (vI 1) :: []) [] (toM ρ τ) _ = _
      refine (g_aload_n d187_0 rfl rfl).trans ?_
      refine (g_cV d187_1 k20_492 rfl rfl rfl).trans ?_
      show G 189 0 (some (.ref 1006) :: []) [] (toM ρ τ) _ = _
      refine (g_gets1 d189_0 rfl).trans ?_
      refine (show _ = _ from rfl : G 189 3 (some (.ref 1006) :: []) (.int 1 :: []) (toM ρ τ) _ = G 189 3 (some (.ref 1006) :: []) [vI 1] (toM ρ τ) _).trans ?_
      refine ((g_if_eq (tgt := 17) d189_3 (by decide)).trans (if_neg (by decide))).trans ?_
      refine (g_aload_n d189_6 rfl rfl).trans ?_
      refine (g_getS (v := vI 0) d189_7 (by decide) rfl).trans ?_
      refine ((g_if_ne (tgt := 17) d189_10 (by decide)).trans (if_pos (by decide))).trans ?_
      refine (j_iconst d189_13).trans ?_
      refine (g_goto (tgt := 18) d189_14 (by decide)).trans ?_
      refine (g_iret d189_18 rfl (by decide)).trans ?_
      show G 187 4 (some (.ref 1006) :: some (vI 1) :: []) [vI 1] (toM ρ τ) _ = _
      refine ((g_if_eq (tgt := 16) d187_4 (by decide)).trans (if_neg (by decide))).trans ?_
      refine (g_aload_n d187_7 rfl rfl).trans ?_
      refine (g_getS (v := .ref 1106) d187_8 (by decide) rfl).trans ?_
      refine (g_iload_n d187_11 rfl).trans ?_
      refine (g_cS d187_12 k20_495 rfl rfl rfl).trans ?_
      show G 191 0 (some (.ref 1106) :: some (vI 1) :: []) [] (toM ρ τ) _ = _
      refine (g_iload_n d191_0 rfl).trans ?_
      refine (g_aload_n d191_1 rfl rfl).trans ?_
      refine (j_alenL (v := 4) d191_2 (by decide) (by decide) (by decide)).trans ?_
      refine (g_cS d191_3 k21_9 rfl rfl rfl).trans ?_
      show G 190 0 (some (vI 1) :: some (vI 4) :: []) [] (toM ρ τ) _ = _
      refine (g_iload_n d190_0 rfl).trans ?_
      refine (g_iload_n d190_1 rfl).trans ?_
      refine (g_gets2 d190_2 rfl).trans ?_
      refine (g_cS d190_5 k20_1059 rfl rfl rfl).trans ?_
      show G 196 0 (some (vI 1) :: some (vI 4) :: some (.ref 1200) :: []) [] (toM ρ τ) _ = _
      refine (g_iload_n d196_0 rfl).trans ?_
      refine ((g_if_lt (tgt := 9) d196_1 (by decide)).trans (if_neg (by decide))).trans ?_
      refine (g_iload_n d196_4 rfl).trans ?_
      refine (g_iload_n d196_5 rfl).trans ?_
      refine ((g_icmp_lt (tgt := 16) d196_6 (by decide)).trans (if_pos (by decide))).trans ?_
      refine (g_iload_n d196_16 rfl).trans ?_
      refine (g_iret d196_17 rfl rfl).trans ?_
      show G 190 8 (some (vI 1) :: some (vI 4) :: []) [vI 1] (toM ρ τ) _ = _
      refine (g_pop d190_8).trans ?_
      refine (g_ret d190_9 rfl).trans ?_
      show G 191 6 (some (.ref 1106) :: some (vI 1) :: []) [] (toM ρ τ) _ = _
      refine (g_aload_n d191_6 rfl rfl).trans ?_
      refine (g_iload_n d191_7 rfl).trans ?_
      refine (j_baloadL (v := 105) d191_8 (by decide) (by decide) (by decide)).trans ?_
      refine (j_sipush d191_9 (by decide)).trans ?_
      refine (j_iandL (v := 105) d191_12 (by decide)).trans ?_
      refine (j_i2cL (v := 105) d191_13 (by decide)).trans ?_
      refine (g_iret d191_14 rfl (by decide)).trans ?_
      show G 187 15 (some (.ref 1006) :: some (vI 1) :: []) [vI 105] (toM ρ τ) _ = _
      refine (g_iret d187_15 rfl (by decide)).trans ?_
      show G 57 47 (some (.ref 5) :: some (.ref 1006) :: some (vI 1) :: []) [vI 105, vI (ρ 37 ((ρ 5 6) + 1))] (toM ρ τ) _ = _
      refine j_icmp_eq (tgt := 52) d57_47 (by decide) (by omega) (by omega) (fun q7 => ?_) (fun q7 => ?_)
      ·
        refine (j_iinc (x := 1) d57_52 rfl (by decide) rfl (lv' := (some (.ref 5) :: some (.ref 1006) :: some (vI 2) :: [])) rfl).trans ?_
        refine (g_goto (tgt := 20) d57_55 (by decide)).trans ?_
        refine (g_iload_n d57_20 rfl).trans ?_
        refine (g_aload_n d57_21 rfl rfl).trans ?_
        refine (g_cV d57_22 k3_121 rfl rfl rfl).trans ?_
        show G 186 0 (some (.ref 1006) :: []) [] (toM ρ τ) _ = _
        refine (g_aload_n d186_0 rfl rfl).trans ?_
        refine (g_getS (v := .ref 1106) d186_1 (by decide) rfl).trans ?_
        refine (j_alenL (v := 4) d186_4 (by decide) (by decide) (by decide)).trans ?_
        refine (g_aload_n d186_5 rfl rfl).trans ?_
        refine (g_cV d186_6 k20_335 rfl rfl rfl).trans ?_
        show G 188 0 (some (.ref 1006) :: []) [] (toM ρ τ) _ = _
        refine (g_gets1 d188_0 rfl).trans ?_
        refine (show _ = _ from rfl : G 188 3 (some (.ref 1006) :: []) (.int 1 :: []) (toM ρ τ) _ = G 188 3 (some (.ref 1006) :: []) [vI 1] (toM ρ τ) _).trans ?_
        refine ((g_if_eq (tgt := 13) d188_3 (by decide)).trans (if_neg (by decide))).trans ?_
        refine (g_aload_n d188_6 rfl rfl).trans ?_
        refine (g_getS (v := vI 0) d188_7 (by decide) rfl).trans ?_
        refine (g_goto (tgt := 14) d188_10 (by decide)).trans ?_
        refine (g_iret d188_14 rfl (by decide)).trans ?_
        show G 186 9 (some (.ref 1006) :: []) [vI 0, vI 4] (toM ρ τ) _ = _
        refine (j_ishrL (v := 4) d186_9 (by decide)).trans ?_
        refine (g_iret d186_10 rfl rfl).trans ?_
        show G 57 25 (some (.ref 5) :: some (.ref 1006) :: some (vI 2) :: []) [vI 4, vI 2] (toM ρ τ) _ = _
        refine ((g_icmp_ge (tgt := 58) d57_25 (by decide)).trans (if_neg (by decide))).trans ?_
        refine (g_aload_n d57_28 rfl rfl).trans ?_
        refine (g_getR (q := 4) d57_29 f3_18 sh_5 (by decide) rfl).trans ?_
        refine (g_getR (q := 37) d57_32 f3_88 sh_4 (by decide) rfl).trans ?_
        refine (g_aload_n d57_35 rfl rfl).trans ?_
        refine (j_getI (v := ρ 5 6) d57_36 f3_45 sh_5 (by decide) rfl rfl).trans ?_
        refine (g_iload_n d57_39 rfl).trans ?_
        refine (j_iadd d57_40).trans ?_
        refine j_iaload (v := ρ 37 ((ρ 5 6) + 2)) d57_41 sh_37 (by omega) rfl (fun q8 => ?_)
        have q9 := hB 37 ((ρ 5 6) + 2) (by decide)
        refine (g_aload_n d57_42 rfl rfl).trans ?_
        refine (g_iload_n d57_43 rfl).trans ?_
        refine (g_cV d57_44 k3_125 rfl rfl rfl).trans ?_
        show G 187 0 (some (.ref 1006) :: some (vI 2) :: []) [] (toM ρ τ) _ = _
        refine (g_aload_n d187_0 rfl rfl).trans ?_
        refine (g_cV d187_1 k20_492 rfl rfl rfl).trans ?_
        show G 189 0 (some (.ref 1006) :: []) [] (toM ρ τ) _ = _
        refine (g_gets1 d189_0 rfl).trans ?_
        refine (show _ = _ from rfl : G 189 3 (some (.ref 1006) :: []) (.int 1 :: []) (toM ρ τ) _ = G 189 3 (some (.ref 1006) :: []) [vI 1] (toM ρ τ) _).trans ?_
        refine ((g_if_eq (tgt := 17) d189_3 (by decide)).trans (if_neg (by decide))).trans ?_
        refine (g_aload_n d189_6 rfl rfl).trans ?_
        refine (g_getS (v := vI 0) d189_7 (by decide) rfl).trans ?_
        refine ((g_if_ne (tgt := 17) d189_10 (by decide)).trans (if_pos (by decide))).trans ?_
        refine (j_iconst d189_13).trans ?_
        refine (g_goto (tgt := 18) d189_14 (by decide)).trans ?_
        refine (g_iret d189_18 rfl (by decide)).trans ?_
        show G 187 4 (some (.ref 1006) :: some (vI 2) :: []) [vI 1] (toM ρ τ) _ = _
        refine ((g_if_eq (tgt := 16) d187_4 (by decide)).trans (if_neg (by decide))).trans ?_
        refine (g_aload_n d187_7 rfl rfl).trans ?_
        refine (g_getS (v := .ref 1106) d187_8 (by decide) rfl).trans ?_
        refine (g_iload_n d187_11 rfl).trans ?_
        refine (g_cS d187_12 k20_495 rfl rfl rfl).trans ?_
        show G 191 0 (some (.ref 1106) :: some (vI 2) :: []) [] (toM ρ τ) _ = _
        refine (g_iload_n d191_0 rfl).trans ?_
        refine (g_aload_n d191_1 rfl rfl).trans ?_
        refine (j_alenL (v := 4) d191_2 (by decide) (by decide) (by decide)).trans ?_
        refine (g_cS d191_3 k21_9 rfl rfl rfl).trans ?_
        show G 190 0 (some (vI 2) :: some (vI 4) :: []) [] (toM ρ τ) _ = _
        refine (g_iload_n d190_0 rfl).trans ?_
        refine (g_iload_n d190_1 rfl).trans ?_
        refine (g_gets2 d190_2 rfl).trans ?_
        refine (g_cS d190_5 k20_1059 rfl rfl rfl).trans ?_
        show G 196 0 (some (vI 2) :: some (vI 4) :: some (.ref 1200) :: []) [] (toM ρ τ) _ = _
        refine (g_iload_n d196_0 rfl).trans ?_
        refine ((g_if_lt (tgt := 9) d196_1 (by decide)).trans (if_neg (by decide))).trans ?_
        refine (g_iload_n d196_4 rfl).trans ?_
        refine (g_iload_n d196_5 rfl).trans ?_
        refine ((g_icmp_lt (tgt := 16) d196_6 (by decide)).trans (if_pos (by decide))).trans ?_
        refine (g_iload_n d196_16 rfl).trans ?_
        refine (g_iret d196_17 rfl rfl).trans ?_
        show G 190 8 (some (vI 2) :: some (vI 4) :: []) [vI 2] (toM ρ τ) _ = _
        refine (g_pop d190_8).trans ?_
        refine (g_ret d190_9 rfl).trans ?_
        show G 191 6 (some (.ref 1106) :: some (vI 2) :: []) [] (toM ρ τ) _ = _
        refine (g_aload_n d191_6 rfl rfl).trans ?_
        refine (g_iload_n d191_7 rfl).trans ?_
        refine (j_baloadL (v := 100) d191_8 (by decide) (by decide) (by decide)).trans ?_
        refine (j_sipush d191_9 (by decide)).trans ?_
        refine (j_iandL (v := 100) d191_12 (by decide)).trans ?_
        refine (j_i2cL (v := 100) d191_13 (by decide)).trans ?_
        refine (g_iret d191_14 rfl (by decide)).trans ?_
        show G 187 15 (some (.ref 1006) :: some (vI 2) :: []) [vI 100] (toM ρ τ) _ = _
        refine (g_iret d187_15 rfl (by decide)).trans ?_
        show G 57 47 (some (.ref 5) :: some (.ref 1006) :: some (vI 2) :: []) [vI 100, vI (ρ 37 ((ρ 5 6) + 2))] (toM ρ τ) _ = _
        refine j_icmp_eq (tgt := 52) d57_47 (by decide) (by omega) (by omega) (fun q10 => ?_) (fun q10 => ?_)
        ·
          refine (j_iinc (x := 2) d57_52 rfl (by decide) rfl (lv' := (some (.ref 5) :: some (.ref 1006) :: some (vI 3) :: [])) rfl).trans ?_
          refine (g_goto (tgt := 20) d57_55 (by decide)).trans ?_
          refine (g_iload_n d57_20 rfl).trans ?_
          refine (g_aload_n d57_21 rfl rfl).trans ?_
          refine (g_cV d57_22 k3_121 rfl rfl rfl).trans ?_
          show G 186 0 (some (.ref 1006) :: []) [] (toM ρ τ) _ = _
          refine (g_aload_n d186_0 rfl rfl).trans ?_
          refine (g_getS (v := .ref 1106) d186_1 (by decide) rfl).trans ?_
          refine (j_alenL (v := 4) d186_4 (by decide) (by decide) (by decide)).trans ?_
          refine (g_aload_n d186_5 rfl rfl).trans ?_
          refine (g_cV d186_6 k20_335 rfl rfl rfl).trans ?_
          show G 188 0 (some (.ref 1006) :: []) [] (toM ρ τ) _ = _
          refine (g_gets1 d188_0 rfl).trans ?_
          refine (show _ = _ from rfl : G 188 3 (some (.ref 1006) :: []) (.int 1 :: []) (toM ρ τ) _ = G 188 3 (some (.ref 1006) :: []) [vI 1] (toM ρ τ) _).trans ?_
          refine ((g_if_eq (tgt := 13) d188_3 (by decide)).trans (if_neg (by decide))).trans ?_
          refine (g_aload_n d188_6 rfl rfl).trans ?_
          refine (g_getS (v := vI 0) d188_7 (by decide) rfl).trans ?_
          refine (g_goto (tgt := 14) d188_10 (by decide)).trans ?_
          refine (g_iret d188_14 rfl (by decide)).trans ?_
          show G 186 9 (some (.ref 1006) :: []) [vI 0, vI 4] (toM ρ τ) _ = _
          refine (j_ishrL (v := 4) d186_9 (by decide)).trans ?_
          refine (g_iret d186_10 rfl rfl).trans ?_
          show G 57 25 (some (.ref 5) :: some (.ref 1006) :: some (vI 3) :: []) [vI 4, vI 3] (toM ρ τ) _ = _
          refine ((g_icmp_ge (tgt := 58) d57_25 (by decide)).trans (if_neg (by decide))).trans ?_
          refine (g_aload_n d57_28 rfl rfl).trans ?_
          refine (g_getR (q := 4) d57_29 f3_18 sh_5 (by decide) rfl).trans ?_
          refine (g_getR (q := 37) d57_32 f3_88 sh_4 (by decide) rfl).trans ?_
          refine (g_aload_n d57_35 rfl rfl).trans ?_
          refine (j_getI (v := ρ 5 6) d57_36 f3_45 sh_5 (by decide) rfl rfl).trans ?_
          refine (g_iload_n d57_39 rfl).trans ?_
          refine (j_iadd d57_40).trans ?_
          refine j_iaload (v := ρ 37 ((ρ 5 6) + 3)) d57_41 sh_37 (by omega) rfl (fun q11 => ?_)
          have q12 := hB 37 ((ρ 5 6) + 3) (by decide)
          refine (g_aload_n d57_42 rfl rfl).trans ?_
          refine (g_iload_n d57_43 rfl).trans ?_
          refine (g_cV d57_44 k3_125 rfl rfl rfl).trans ?_
          show G 187 0 (some (.ref 1006) :: some (vI 3) :: []) [] (toM ρ τ) _ = _
          refine (g_aload_n d187_0 rfl rfl).trans ?_
          refine (g_cV d187_1 k20_492 rfl rfl rfl).trans ?_
          show G 189 0 (some (.ref 1006) :: []) [] (toM ρ τ) _ = _
          refine (g_gets1 d189_0 rfl).trans ?_
          refine (show _ = _ from rfl : G 189 3 (some (.ref 1006) :: []) (.int 1 :: []) (toM ρ τ) _ = G 189 3 (some (.ref 1006) :: []) [vI 1] (toM ρ τ) _).trans ?_
          refine ((g_if_eq (tgt := 17) d189_3 (by decide)).trans (if_neg (by decide))).trans ?_
          refine (g_aload_n d189_6 rfl rfl).trans ?_
          refine (g_getS (v := vI 0) d189_7 (by decide) rfl).trans ?_
          refine ((g_if_ne (tgt := 17) d189_10 (by decide)).trans (if_pos (by decide))).trans ?_
          refine (j_iconst d189_13).trans ?_
          refine (g_goto (tgt := 18) d189_14 (by decide)).trans ?_
          refine (g_iret d189_18 rfl (by decide)).trans ?_
          show G 187 4 (some (.ref 1006) :: some (vI 3) :: []) [vI 1] (toM ρ τ) _ = _
          refine ((g_if_eq (tgt := 16) d187_4 (by decide)).trans (if_neg (by decide))).trans ?_
          refine (g_aload_n d187_7 rfl rfl).trans ?_
          refine (g_getS (v := .ref 1106) d187_8 (by decide) rfl).trans ?_
          refine (g_iload_n d187_11 rfl).trans ?_
          refine (g_cS d187_12 k20_495 rfl rfl rfl).trans ?_
          show G 191 0 (some (.ref 1106) :: some (vI 3) :: []) [] (toM ρ τ) _ = _
          refine (g_iload_n d191_0 rfl).trans ?_
          refine (g_aload_n d191_1 rfl rfl).trans ?_
          refine (j_alenL (v := 4) d191_2 (by decide) (by decide) (by decide)).trans ?_
          refine (g_cS d191_3 k21_9 rfl rfl rfl).trans ?_
          show G 190 0 (some (vI 3) :: some (vI 4) :: []) [] (toM ρ τ) _ = _
          refine (g_iload_n d190_0 rfl).trans ?_
          refine (g_iload_n d190_1 rfl).trans ?_
          refine (g_gets2 d190_2 rfl).trans ?_
          refine (g_cS d190_5 k20_1059 rfl rfl rfl).trans ?_
          show G 196 0 (some (vI 3) :: some (vI 4) :: some (.ref 1200) :: []) [] (toM ρ τ) _ = _
          refine (g_iload_n d196_0 rfl).trans ?_
          refine ((g_if_lt (tgt := 9) d196_1 (by decide)).trans (if_neg (by decide))).trans ?_
          refine (g_iload_n d196_4 rfl).trans ?_
          refine (g_iload_n d196_5 rfl).trans ?_
          refine ((g_icmp_lt (tgt := 16) d196_6 (by decide)).trans (if_pos (by decide))).trans ?_
          refine (g_iload_n d196_16 rfl).trans ?_
          refine (g_iret d196_17 rfl rfl).trans ?_
          show G 190 8 (some (vI 3) :: some (vI 4) :: []) [vI 3] (toM ρ τ) _ = _
          refine (g_pop d190_8).trans ?_
          refine (g_ret d190_9 rfl).trans ?_
          show G 191 6 (some (.ref 1106) :: some (vI 3) :: []) [] (toM ρ τ) _ = _
          refine (g_aload_n d191_6 rfl rfl).trans ?_
          refine (g_iload_n d191_7 rfl).trans ?_
          refine (j_baloadL (v := 121) d191_8 (by decide) (by decide) (by decide)).trans ?_
          refine (j_sipush d191_9 (by decide)).trans ?_
          refine (j_iandL (v := 121) d191_12 (by decide)).trans ?_
          refine (j_i2cL (v := 121) d191_13 (by decide)).trans ?_
          refine (g_iret d191_14 rfl (by decide)).trans ?_
          show G 187 15 (some (.ref 1006) :: some (vI 3) :: []) [vI 121] (toM ρ τ) _ = _
          refine (g_iret d187_15 rfl (by decide)).trans ?_
          show G 57 47 (some (.ref 5) :: some (.ref 1006) :: some (vI 3) :: []) [vI 121, vI (ρ 37 ((ρ 5 6) + 3))] (toM ρ τ) _ = _
          refine j_icmp_eq (tgt := 52) d57_47 (by decide) (by omega) (by omega) (fun q13 => ?_) (fun q13 => ?_)
          ·
            refine (j_iinc (x := 3) d57_52 rfl (by decide) rfl (lv' := (some (.ref 5) :: some (.ref 1006) :: some (vI 4) :: [])) rfl).trans ?_
            refine (g_goto (tgt := 20) d57_55 (by decide)).trans ?_
            refine (g_iload_n d57_20 rfl).trans ?_
            refine (g_aload_n d57_21 rfl rfl).trans ?_
            refine (g_cV d57_22 k3_121 rfl rfl rfl).trans ?_
            show G 186 0 (some (.ref 1006) :: []) [] (toM ρ τ) _ = _
            refine (g_aload_n d186_0 rfl rfl).trans ?_
            refine (g_getS (v := .ref 1106) d186_1 (by decide) rfl).trans ?_
            refine (j_alenL (v := 4) d186_4 (by decide) (by decide) (by decide)).trans ?_
            refine (g_aload_n d186_5 rfl rfl).trans ?_
            refine (g_cV d186_6 k20_335 rfl rfl rfl).trans ?_
            show G 188 0 (some (.ref 1006) :: []) [] (toM ρ τ) _ = _
            refine (g_gets1 d188_0 rfl).trans ?_
            refine (show _ = _ from rfl : G 188 3 (some (.ref 1006) :: []) (.int 1 :: []) (toM ρ τ) _ = G 188 3 (some (.ref 1006) :: []) [vI 1] (toM ρ τ) _).trans ?_
            refine ((g_if_eq (tgt := 13) d188_3 (by decide)).trans (if_neg (by decide))).trans ?_
            refine (g_aload_n d188_6 rfl rfl).trans ?_
            refine (g_getS (v := vI 0) d188_7 (by decide) rfl).trans ?_
            refine (g_goto (tgt := 14) d188_10 (by decide)).trans ?_
            refine (g_iret d188_14 rfl (by decide)).trans ?_
            show G 186 9 (some (.ref 1006) :: []) [vI 0, vI 4] (toM ρ τ) _ = _
            refine (j_ishrL (v := 4) d186_9 (by decide)).trans ?_
            refine (g_iret d186_10 rfl rfl).trans ?_
            show G 57 25 (some (.ref 5) :: some (.ref 1006) :: some (vI 4) :: []) [vI 4, vI 4] (toM ρ τ) _ = _
            refine ((g_icmp_ge (tgt := 58) d57_25 (by decide)).trans (if_pos (by decide))).trans ?_
            refine (j_iconst d57_58).trans ?_
            exact g_iret d57_59 rfl rfl
          ·
            refine (j_iconst d57_50).trans ?_
            exact g_iret d57_51 rfl rfl
        ·
          refine (j_iconst d57_50).trans ?_
          exact g_iret d57_51 rfl rfl
      ·
        refine (j_iconst d57_50).trans ?_
        exact g_iret d57_51 rfl rfl
    ·
      refine (j_iconst d57_50).trans ?_
      exact g_iret d57_51 rfl rfl
  ·
    refine (j_iconst d57_16).trans ?_
    exact g_iret d57_17 rfl rfl
