/-! the seven words (wip/gen/gen_words72.py) -/
abbrev q_w0 (T : Int → Int) (s m : Int) : Prop := m = 6 ∧ T (s + 0) = 115 ∧ T (s + 1) = 116 ∧ T (s + 2) = 114 ∧ T (s + 3) = 101 ∧ T (s + 4) = 101 ∧ T (s + 5) = 116
abbrev q_w1 (T : Int → Int) (s m : Int) : Prop := m = 6 ∧ T (s + 0) = 98 ∧ T (s + 1) = 101 ∧ T (s + 2) = 104 ∧ T (s + 3) = 105 ∧ T (s + 4) = 110 ∧ T (s + 5) = 100
abbrev q_w2 (T : Int → Int) (s m : Int) : Prop := m = 3 ∧ T (s + 0) = 119 ∧ T (s + 1) = 97 ∧ T (s + 2) = 121
abbrev q_w3 (T : Int → Int) (s m : Int) : Prop := m = 4 ∧ T (s + 0) = 119 ∧ T (s + 1) = 97 ∧ T (s + 2) = 108 ∧ T (s + 3) = 108
abbrev q_w4 (T : Int → Int) (s m : Int) : Prop := m = 4 ∧ T (s + 0) = 100 ∧ T (s + 1) = 101 ∧ T (s + 2) = 101 ∧ T (s + 3) = 100
abbrev q_w5 (T : Int → Int) (s m : Int) : Prop := m = 4 ∧ T (s + 0) = 115 ∧ T (s + 1) = 104 ∧ T (s + 2) = 111 ∧ T (s + 3) = 112
abbrev q_w6 (T : Int → Int) (s m : Int) : Prop := m = 4 ∧ T (s + 0) = 116 ∧ T (s + 1) = 105 ∧ T (s + 2) = 100 ∧ T (s + 3) = 121
def wdK (T : Int → Int) (s m : Int) : Int := if q_w0 T s m then 1 else if q_w1 T s m then 2 else if q_w2 T s m then 3 else if q_w3 T s m then 4 else if q_w4 T s m then 5 else if q_w5 T s m then 6 else if q_w6 T s m then 7 else 0
theorem wdK_rg (T : Int → Int) (s m : Int) : 0 ≤ wdK T s m ∧ wdK T s m ≤ 7 := by
  unfold wdK
  (repeat' split) <;> omega
section WC
variable {ρ : rm} {τ : Int64} {Q : Option Value → mm → Prop}
theorem c_w0 (hB : BM ρ) (h1 : 0 ≤ ρ 5 6) (h2 : ρ 5 4 ≤ 200) : G 57 0 [some (.ref 5), some (.ref 1000)] [] (toM ρ τ) Q = Q (some (vI (tv (q_w0 (ρ 37) (ρ 5 6) (ρ 5 4 - ρ 5 6))))) (toM ρ τ) := by
  rw [w57_0 ρ τ hB]
  by_cases y : ρ 5 4 - ρ 5 6 = 6
  · rw [if_pos y]
    rw [if_pos (show 0 ≤ ρ 5 6 + 0 ∧ ρ 5 6 + 0 < 200 by omega)]
    by_cases y0 : ρ 37 (ρ 5 6 + 0) = 115
    rotate_left
    · rw [if_neg y0, tv_f (fun q => y0 q.2.1)]
    rw [if_pos y0]
    rw [if_pos (show 0 ≤ ρ 5 6 + 1 ∧ ρ 5 6 + 1 < 200 by omega)]
    by_cases y1 : ρ 37 (ρ 5 6 + 1) = 116
    rotate_left
    · rw [if_neg y1, tv_f (fun q => y1 q.2.2.1)]
    rw [if_pos y1]
    rw [if_pos (show 0 ≤ ρ 5 6 + 2 ∧ ρ 5 6 + 2 < 200 by omega)]
    by_cases y2 : ρ 37 (ρ 5 6 + 2) = 114
    rotate_left
    · rw [if_neg y2, tv_f (fun q => y2 q.2.2.2.1)]
    rw [if_pos y2]
    rw [if_pos (show 0 ≤ ρ 5 6 + 3 ∧ ρ 5 6 + 3 < 200 by omega)]
    by_cases y3 : ρ 37 (ρ 5 6 + 3) = 101
    rotate_left
    · rw [if_neg y3, tv_f (fun q => y3 q.2.2.2.2.1)]
    rw [if_pos y3]
    rw [if_pos (show 0 ≤ ρ 5 6 + 4 ∧ ρ 5 6 + 4 < 200 by omega)]
    by_cases y4 : ρ 37 (ρ 5 6 + 4) = 101
    rotate_left
    · rw [if_neg y4, tv_f (fun q => y4 q.2.2.2.2.2.1)]
    rw [if_pos y4]
    rw [if_pos (show 0 ≤ ρ 5 6 + 5 ∧ ρ 5 6 + 5 < 200 by omega)]
    by_cases y5 : ρ 37 (ρ 5 6 + 5) = 116
    rotate_left
    · rw [if_neg y5, tv_f (fun q => y5 q.2.2.2.2.2.2)]
    rw [if_pos y5]
    rw [tv_t ⟨y, y0, y1, y2, y3, y4, y5⟩]
  · rw [if_neg y, tv_f (fun q => y q.1)]
theorem c_w1 (hB : BM ρ) (h1 : 0 ≤ ρ 5 6) (h2 : ρ 5 4 ≤ 200) : G 57 0 [some (.ref 5), some (.ref 1001)] [] (toM ρ τ) Q = Q (some (vI (tv (q_w1 (ρ 37) (ρ 5 6) (ρ 5 4 - ρ 5 6))))) (toM ρ τ) := by
  rw [w57_1 ρ τ hB]
  by_cases y : ρ 5 4 - ρ 5 6 = 6
  · rw [if_pos y]
    rw [if_pos (show 0 ≤ ρ 5 6 + 0 ∧ ρ 5 6 + 0 < 200 by omega)]
    by_cases y0 : ρ 37 (ρ 5 6 + 0) = 98
    rotate_left
    · rw [if_neg y0, tv_f (fun q => y0 q.2.1)]
    rw [if_pos y0]
    rw [if_pos (show 0 ≤ ρ 5 6 + 1 ∧ ρ 5 6 + 1 < 200 by omega)]
    by_cases y1 : ρ 37 (ρ 5 6 + 1) = 101
    rotate_left
    · rw [if_neg y1, tv_f (fun q => y1 q.2.2.1)]
    rw [if_pos y1]
    rw [if_pos (show 0 ≤ ρ 5 6 + 2 ∧ ρ 5 6 + 2 < 200 by omega)]
    by_cases y2 : ρ 37 (ρ 5 6 + 2) = 104
    rotate_left
    · rw [if_neg y2, tv_f (fun q => y2 q.2.2.2.1)]
    rw [if_pos y2]
    rw [if_pos (show 0 ≤ ρ 5 6 + 3 ∧ ρ 5 6 + 3 < 200 by omega)]
    by_cases y3 : ρ 37 (ρ 5 6 + 3) = 105
    rotate_left
    · rw [if_neg y3, tv_f (fun q => y3 q.2.2.2.2.1)]
    rw [if_pos y3]
    rw [if_pos (show 0 ≤ ρ 5 6 + 4 ∧ ρ 5 6 + 4 < 200 by omega)]
    by_cases y4 : ρ 37 (ρ 5 6 + 4) = 110
    rotate_left
    · rw [if_neg y4, tv_f (fun q => y4 q.2.2.2.2.2.1)]
    rw [if_pos y4]
    rw [if_pos (show 0 ≤ ρ 5 6 + 5 ∧ ρ 5 6 + 5 < 200 by omega)]
    by_cases y5 : ρ 37 (ρ 5 6 + 5) = 100
    rotate_left
    · rw [if_neg y5, tv_f (fun q => y5 q.2.2.2.2.2.2)]
    rw [if_pos y5]
    rw [tv_t ⟨y, y0, y1, y2, y3, y4, y5⟩]
  · rw [if_neg y, tv_f (fun q => y q.1)]
theorem c_w2 (hB : BM ρ) (h1 : 0 ≤ ρ 5 6) (h2 : ρ 5 4 ≤ 200) : G 57 0 [some (.ref 5), some (.ref 1002)] [] (toM ρ τ) Q = Q (some (vI (tv (q_w2 (ρ 37) (ρ 5 6) (ρ 5 4 - ρ 5 6))))) (toM ρ τ) := by
  rw [w57_2 ρ τ hB]
  by_cases y : ρ 5 4 - ρ 5 6 = 3
  · rw [if_pos y]
    rw [if_pos (show 0 ≤ ρ 5 6 + 0 ∧ ρ 5 6 + 0 < 200 by omega)]
    by_cases y0 : ρ 37 (ρ 5 6 + 0) = 119
    rotate_left
    · rw [if_neg y0, tv_f (fun q => y0 q.2.1)]
    rw [if_pos y0]
    rw [if_pos (show 0 ≤ ρ 5 6 + 1 ∧ ρ 5 6 + 1 < 200 by omega)]
    by_cases y1 : ρ 37 (ρ 5 6 + 1) = 97
    rotate_left
    · rw [if_neg y1, tv_f (fun q => y1 q.2.2.1)]
    rw [if_pos y1]
    rw [if_pos (show 0 ≤ ρ 5 6 + 2 ∧ ρ 5 6 + 2 < 200 by omega)]
    by_cases y2 : ρ 37 (ρ 5 6 + 2) = 121
    rotate_left
    · rw [if_neg y2, tv_f (fun q => y2 q.2.2.2)]
    rw [if_pos y2]
    rw [tv_t ⟨y, y0, y1, y2⟩]
  · rw [if_neg y, tv_f (fun q => y q.1)]
theorem c_w3 (hB : BM ρ) (h1 : 0 ≤ ρ 5 6) (h2 : ρ 5 4 ≤ 200) : G 57 0 [some (.ref 5), some (.ref 1003)] [] (toM ρ τ) Q = Q (some (vI (tv (q_w3 (ρ 37) (ρ 5 6) (ρ 5 4 - ρ 5 6))))) (toM ρ τ) := by
  rw [w57_3 ρ τ hB]
  by_cases y : ρ 5 4 - ρ 5 6 = 4
  · rw [if_pos y]
    rw [if_pos (show 0 ≤ ρ 5 6 + 0 ∧ ρ 5 6 + 0 < 200 by omega)]
    by_cases y0 : ρ 37 (ρ 5 6 + 0) = 119
    rotate_left
    · rw [if_neg y0, tv_f (fun q => y0 q.2.1)]
    rw [if_pos y0]
    rw [if_pos (show 0 ≤ ρ 5 6 + 1 ∧ ρ 5 6 + 1 < 200 by omega)]
    by_cases y1 : ρ 37 (ρ 5 6 + 1) = 97
    rotate_left
    · rw [if_neg y1, tv_f (fun q => y1 q.2.2.1)]
    rw [if_pos y1]
    rw [if_pos (show 0 ≤ ρ 5 6 + 2 ∧ ρ 5 6 + 2 < 200 by omega)]
    by_cases y2 : ρ 37 (ρ 5 6 + 2) = 108
    rotate_left
    · rw [if_neg y2, tv_f (fun q => y2 q.2.2.2.1)]
    rw [if_pos y2]
    rw [if_pos (show 0 ≤ ρ 5 6 + 3 ∧ ρ 5 6 + 3 < 200 by omega)]
    by_cases y3 : ρ 37 (ρ 5 6 + 3) = 108
    rotate_left
    · rw [if_neg y3, tv_f (fun q => y3 q.2.2.2.2)]
    rw [if_pos y3]
    rw [tv_t ⟨y, y0, y1, y2, y3⟩]
  · rw [if_neg y, tv_f (fun q => y q.1)]
theorem c_w4 (hB : BM ρ) (h1 : 0 ≤ ρ 5 6) (h2 : ρ 5 4 ≤ 200) : G 57 0 [some (.ref 5), some (.ref 1004)] [] (toM ρ τ) Q = Q (some (vI (tv (q_w4 (ρ 37) (ρ 5 6) (ρ 5 4 - ρ 5 6))))) (toM ρ τ) := by
  rw [w57_4 ρ τ hB]
  by_cases y : ρ 5 4 - ρ 5 6 = 4
  · rw [if_pos y]
    rw [if_pos (show 0 ≤ ρ 5 6 + 0 ∧ ρ 5 6 + 0 < 200 by omega)]
    by_cases y0 : ρ 37 (ρ 5 6 + 0) = 100
    rotate_left
    · rw [if_neg y0, tv_f (fun q => y0 q.2.1)]
    rw [if_pos y0]
    rw [if_pos (show 0 ≤ ρ 5 6 + 1 ∧ ρ 5 6 + 1 < 200 by omega)]
    by_cases y1 : ρ 37 (ρ 5 6 + 1) = 101
    rotate_left
    · rw [if_neg y1, tv_f (fun q => y1 q.2.2.1)]
    rw [if_pos y1]
    rw [if_pos (show 0 ≤ ρ 5 6 + 2 ∧ ρ 5 6 + 2 < 200 by omega)]
    by_cases y2 : ρ 37 (ρ 5 6 + 2) = 101
    rotate_left
    · rw [if_neg y2, tv_f (fun q => y2 q.2.2.2.1)]
    rw [if_pos y2]
    rw [if_pos (show 0 ≤ ρ 5 6 + 3 ∧ ρ 5 6 + 3 < 200 by omega)]
    by_cases y3 : ρ 37 (ρ 5 6 + 3) = 100
    rotate_left
    · rw [if_neg y3, tv_f (fun q => y3 q.2.2.2.2)]
    rw [if_pos y3]
    rw [tv_t ⟨y, y0, y1, y2, y3⟩]
  · rw [if_neg y, tv_f (fun q => y q.1)]
theorem c_w5 (hB : BM ρ) (h1 : 0 ≤ ρ 5 6) (h2 : ρ 5 4 ≤ 200) : G 57 0 [some (.ref 5), some (.ref 1005)] [] (toM ρ τ) Q = Q (some (vI (tv (q_w5 (ρ 37) (ρ 5 6) (ρ 5 4 - ρ 5 6))))) (toM ρ τ) := by
  rw [w57_5 ρ τ hB]
  by_cases y : ρ 5 4 - ρ 5 6 = 4
  · rw [if_pos y]
    rw [if_pos (show 0 ≤ ρ 5 6 + 0 ∧ ρ 5 6 + 0 < 200 by omega)]
    by_cases y0 : ρ 37 (ρ 5 6 + 0) = 115
    rotate_left
    · rw [if_neg y0, tv_f (fun q => y0 q.2.1)]
    rw [if_pos y0]
    rw [if_pos (show 0 ≤ ρ 5 6 + 1 ∧ ρ 5 6 + 1 < 200 by omega)]
    by_cases y1 : ρ 37 (ρ 5 6 + 1) = 104
    rotate_left
    · rw [if_neg y1, tv_f (fun q => y1 q.2.2.1)]
    rw [if_pos y1]
    rw [if_pos (show 0 ≤ ρ 5 6 + 2 ∧ ρ 5 6 + 2 < 200 by omega)]
    by_cases y2 : ρ 37 (ρ 5 6 + 2) = 111
    rotate_left
    · rw [if_neg y2, tv_f (fun q => y2 q.2.2.2.1)]
    rw [if_pos y2]
    rw [if_pos (show 0 ≤ ρ 5 6 + 3 ∧ ρ 5 6 + 3 < 200 by omega)]
    by_cases y3 : ρ 37 (ρ 5 6 + 3) = 112
    rotate_left
    · rw [if_neg y3, tv_f (fun q => y3 q.2.2.2.2)]
    rw [if_pos y3]
    rw [tv_t ⟨y, y0, y1, y2, y3⟩]
  · rw [if_neg y, tv_f (fun q => y q.1)]
theorem c_w6 (hB : BM ρ) (h1 : 0 ≤ ρ 5 6) (h2 : ρ 5 4 ≤ 200) : G 57 0 [some (.ref 5), some (.ref 1006)] [] (toM ρ τ) Q = Q (some (vI (tv (q_w6 (ρ 37) (ρ 5 6) (ρ 5 4 - ρ 5 6))))) (toM ρ τ) := by
  rw [w57_6 ρ τ hB]
  by_cases y : ρ 5 4 - ρ 5 6 = 4
  · rw [if_pos y]
    rw [if_pos (show 0 ≤ ρ 5 6 + 0 ∧ ρ 5 6 + 0 < 200 by omega)]
    by_cases y0 : ρ 37 (ρ 5 6 + 0) = 116
    rotate_left
    · rw [if_neg y0, tv_f (fun q => y0 q.2.1)]
    rw [if_pos y0]
    rw [if_pos (show 0 ≤ ρ 5 6 + 1 ∧ ρ 5 6 + 1 < 200 by omega)]
    by_cases y1 : ρ 37 (ρ 5 6 + 1) = 105
    rotate_left
    · rw [if_neg y1, tv_f (fun q => y1 q.2.2.1)]
    rw [if_pos y1]
    rw [if_pos (show 0 ≤ ρ 5 6 + 2 ∧ ρ 5 6 + 2 < 200 by omega)]
    by_cases y2 : ρ 37 (ρ 5 6 + 2) = 100
    rotate_left
    · rw [if_neg y2, tv_f (fun q => y2 q.2.2.2.1)]
    rw [if_pos y2]
    rw [if_pos (show 0 ≤ ρ 5 6 + 3 ∧ ρ 5 6 + 3 < 200 by omega)]
    by_cases y3 : ρ 37 (ρ 5 6 + 3) = 121
    rotate_left
    · rw [if_neg y3, tv_f (fun q => y3 q.2.2.2.2)]
    rw [if_pos y3]
    rw [tv_t ⟨y, y0, y1, y2, y3⟩]
  · rw [if_neg y, tv_f (fun q => y q.1)]
theorem c_kind (hB : BM ρ) (h1 : 0 ≤ ρ 5 6) (h2 : ρ 5 4 ≤ 200) : G 56 0 [some (.ref 5)] [] (toM ρ τ) Q = Q (some (vI (if ρ 5 5 = 1 then wdK (ρ 37) (ρ 5 6) (ρ 5 4 - ρ 5 6) else 0))) (toM ρ τ) := by
  rw [b56_0 ρ τ hB]
  by_cases c : ρ 5 5 = 1
  · rw [if_pos c, if_pos c]
    unfold wdK
    rw [c_w0 hB h1 h2, b56_16 ρ τ [] _ hB (tv_sm _)]
    by_cases z0 : q_w0 (ρ 37) (ρ 5 6) (ρ 5 4 - ρ 5 6)
    · rw [if_neg (by rw [tv_0]; exact fun z => z z0), if_pos z0]
    rw [if_pos (by rw [tv_0]; exact z0), if_neg z0]
    rw [c_w1 hB h1 h2, b56_29 ρ τ [] _ hB (tv_sm _)]
    by_cases z1 : q_w1 (ρ 37) (ρ 5 6) (ρ 5 4 - ρ 5 6)
    · rw [if_neg (by rw [tv_0]; exact fun z => z z1), if_pos z1]
    rw [if_pos (by rw [tv_0]; exact z1), if_neg z1]
    rw [c_w2 hB h1 h2, b56_42 ρ τ [] _ hB (tv_sm _)]
    by_cases z2 : q_w2 (ρ 37) (ρ 5 6) (ρ 5 4 - ρ 5 6)
    · rw [if_neg (by rw [tv_0]; exact fun z => z z2), if_pos z2]
    rw [if_pos (by rw [tv_0]; exact z2), if_neg z2]
    rw [c_w3 hB h1 h2, b56_55 ρ τ [] _ hB (tv_sm _)]
    by_cases z3 : q_w3 (ρ 37) (ρ 5 6) (ρ 5 4 - ρ 5 6)
    · rw [if_neg (by rw [tv_0]; exact fun z => z z3), if_pos z3]
    rw [if_pos (by rw [tv_0]; exact z3), if_neg z3]
    rw [c_w4 hB h1 h2, b56_68 ρ τ [] _ hB (tv_sm _)]
    by_cases z4 : q_w4 (ρ 37) (ρ 5 6) (ρ 5 4 - ρ 5 6)
    · rw [if_neg (by rw [tv_0]; exact fun z => z z4), if_pos z4]
    rw [if_pos (by rw [tv_0]; exact z4), if_neg z4]
    rw [c_w5 hB h1 h2, b56_81 ρ τ [] _ hB (tv_sm _)]
    by_cases z5 : q_w5 (ρ 37) (ρ 5 6) (ρ 5 4 - ρ 5 6)
    · rw [if_neg (by rw [tv_0]; exact fun z => z z5), if_pos z5]
    rw [if_pos (by rw [tv_0]; exact z5), if_neg z5]
    rw [c_w6 hB h1 h2, b56_95 ρ τ [] _ hB (tv_sm _)]
    by_cases z6 : q_w6 (ρ 37) (ρ 5 6) (ρ 5 4 - ρ 5 6)
    · rw [if_neg (by rw [tv_0]; exact fun z => z z6), if_pos z6]
    rw [if_pos (by rw [tv_0]; exact z6), if_neg z6]
  · rw [if_neg c, if_neg c]
end WC
theorem hs_s {T : Int → Int} {s : Int} {k : Nat} (h : k < 9) : hs T s (k + 1) = 27 * hs T s k + T (s + k) - 96 := if_pos h
theorem hs_n {T : Int → Int} {s : Int} : ∀ (m : Nat), m ≤ 9 → (∀ q : Int, 0 ≤ q → q < m → q_let (T (s + q))) → 0 ≤ hs T s m ∧ (m ≠ 0 → 0 < hs T s m)
  | 0, _, _ => ⟨Int.le_refl _, fun h => absurd rfl h⟩
  | k + 1, h, hl => by
    have h1 := (hs_n k (by omega) (fun q q1 q2 => hl q q1 (by omega))).1
    have h2 := hl k (by omega) (by omega)
    rw [hs_s (by omega)]
    exact ⟨by omega, fun _ => by omega⟩
theorem hs_st {T : Int → Int} {s : Int} {m : Nat} (hm : m ≤ 9) (hl : ∀ q : Int, 0 ≤ q → q < m → q_let (T (s + q))) {W q c : Int} (hW : hs T s m = W) (h1 : W = 27 * q + c) (h2 : 1 ≤ c ∧ c ≤ 26) (hq : 0 ≤ q) : ∃ k, m = k + 1 ∧ hs T s k = q ∧ T (s + (k : Int)) = c + 96 := by
  cases m with
  | zero =>
    have : hs T s 0 = 0 := rfl
    omega
  | succ k =>
    have e := hs_s (T := T) (s := s) (k := k) (by omega)
    have h3 := hl k (by omega) (by omega)
    exact ⟨k, rfl, by omega, by omega⟩
theorem hs_z {T : Int → Int} {s : Int} {m : Nat} (hm : m ≤ 9) (hl : ∀ q : Int, 0 ≤ q → q < m → q_let (T (s + q))) (h : hs T s m = 0) : m = 0 := by
  have := (hs_n m hm hl).2
  by_cases c : m = 0
  · exact c
  · have := this c
    omega
theorem hs_w0 {T : Int → Int} {s : Int} {m : Nat} (hm : m ≤ 9) (hl : ∀ q : Int, 0 ≤ q → q < m → q_let (T (s + q))) : hs T s m = 283616147 ↔ q_w0 T s m := by
  constructor
  · intro h
    obtain ⟨k5, rfl, a5, t5⟩ := hs_st (by omega) (fun q q1 q2 => hl q q1 (by omega)) h (q := 10504301) (c := 20) (by omega) (by omega) (by omega)
    obtain ⟨k4, rfl, a4, t4⟩ := hs_st (by omega) (fun q q1 q2 => hl q q1 (by omega)) a5 (q := 389048) (c := 5) (by omega) (by omega) (by omega)
    obtain ⟨k3, rfl, a3, t3⟩ := hs_st (by omega) (fun q q1 q2 => hl q q1 (by omega)) a4 (q := 14409) (c := 5) (by omega) (by omega) (by omega)
    obtain ⟨k2, rfl, a2, t2⟩ := hs_st (by omega) (fun q q1 q2 => hl q q1 (by omega)) a3 (q := 533) (c := 18) (by omega) (by omega) (by omega)
    obtain ⟨k1, rfl, a1, t1⟩ := hs_st (by omega) (fun q q1 q2 => hl q q1 (by omega)) a2 (q := 19) (c := 20) (by omega) (by omega) (by omega)
    obtain ⟨k0, rfl, a0, t0⟩ := hs_st (by omega) (fun q q1 q2 => hl q q1 (by omega)) a1 (q := 0) (c := 19) (by omega) (by omega) (by omega)
    have z := hs_z (by omega) (fun q q1 q2 => hl q q1 (by omega)) a0
    subst z
    exact ⟨rfl, t0, t1, t2, t3, t4, t5⟩
  · rintro ⟨h, t0, t1, t2, t3, t4, t5⟩
    have h6 : m = 6 := by omega
    subst h6
    have e0 : hs T s 1 = 27 * hs T s 0 + T (s + 0) - 96 := hs_s (k := 0) (by decide)
    have e1 : hs T s 2 = 27 * hs T s 1 + T (s + 1) - 96 := hs_s (k := 1) (by decide)
    have e2 : hs T s 3 = 27 * hs T s 2 + T (s + 2) - 96 := hs_s (k := 2) (by decide)
    have e3 : hs T s 4 = 27 * hs T s 3 + T (s + 3) - 96 := hs_s (k := 3) (by decide)
    have e4 : hs T s 5 = 27 * hs T s 4 + T (s + 4) - 96 := hs_s (k := 4) (by decide)
    have e5 : hs T s 6 = 27 * hs T s 5 + T (s + 5) - 96 := hs_s (k := 5) (by decide)
    have ez : hs T s 0 = 0 := rfl
    omega
theorem hs_w1 {T : Int → Int} {s : Int} {m : Nat} (hm : m ≤ 9) (hl : ∀ q : Int, 0 ≤ q → q < m → q_let (T (s + q))) : hs T s m = 31519426 ↔ q_w1 T s m := by
  constructor
  · intro h
    obtain ⟨k5, rfl, a5, t5⟩ := hs_st (by omega) (fun q q1 q2 => hl q q1 (by omega)) h (q := 1167386) (c := 4) (by omega) (by omega) (by omega)
    obtain ⟨k4, rfl, a4, t4⟩ := hs_st (by omega) (fun q q1 q2 => hl q q1 (by omega)) a5 (q := 43236) (c := 14) (by omega) (by omega) (by omega)
    obtain ⟨k3, rfl, a3, t3⟩ := hs_st (by omega) (fun q q1 q2 => hl q q1 (by omega)) a4 (q := 1601) (c := 9) (by omega) (by omega) (by omega)
    obtain ⟨k2, rfl, a2, t2⟩ := hs_st (by omega) (fun q q1 q2 => hl q q1 (by omega)) a3 (q := 59) (c := 8) (by omega) (by omega) (by omega)
    obtain ⟨k1, rfl, a1, t1⟩ := hs_st (by omega) (fun q q1 q2 => hl q q1 (by omega)) a2 (q := 2) (c := 5) (by omega) (by omega) (by omega)
    obtain ⟨k0, rfl, a0, t0⟩ := hs_st (by omega) (fun q q1 q2 => hl q q1 (by omega)) a1 (q := 0) (c := 2) (by omega) (by omega) (by omega)
    have z := hs_z (by omega) (fun q q1 q2 => hl q q1 (by omega)) a0
    subst z
    exact ⟨rfl, t0, t1, t2, t3, t4, t5⟩
  · rintro ⟨h, t0, t1, t2, t3, t4, t5⟩
    have h6 : m = 6 := by omega
    subst h6
    have e0 : hs T s 1 = 27 * hs T s 0 + T (s + 0) - 96 := hs_s (k := 0) (by decide)
    have e1 : hs T s 2 = 27 * hs T s 1 + T (s + 1) - 96 := hs_s (k := 1) (by decide)
    have e2 : hs T s 3 = 27 * hs T s 2 + T (s + 2) - 96 := hs_s (k := 2) (by decide)
    have e3 : hs T s 4 = 27 * hs T s 3 + T (s + 3) - 96 := hs_s (k := 3) (by decide)
    have e4 : hs T s 5 = 27 * hs T s 4 + T (s + 4) - 96 := hs_s (k := 4) (by decide)
    have e5 : hs T s 6 = 27 * hs T s 5 + T (s + 5) - 96 := hs_s (k := 5) (by decide)
    have ez : hs T s 0 = 0 := rfl
    omega
theorem hs_w2 {T : Int → Int} {s : Int} {m : Nat} (hm : m ≤ 9) (hl : ∀ q : Int, 0 ≤ q → q < m → q_let (T (s + q))) : hs T s m = 16819 ↔ q_w2 T s m := by
  constructor
  · intro h
    obtain ⟨k2, rfl, a2, t2⟩ := hs_st (by omega) (fun q q1 q2 => hl q q1 (by omega)) h (q := 622) (c := 25) (by omega) (by omega) (by omega)
    obtain ⟨k1, rfl, a1, t1⟩ := hs_st (by omega) (fun q q1 q2 => hl q q1 (by omega)) a2 (q := 23) (c := 1) (by omega) (by omega) (by omega)
    obtain ⟨k0, rfl, a0, t0⟩ := hs_st (by omega) (fun q q1 q2 => hl q q1 (by omega)) a1 (q := 0) (c := 23) (by omega) (by omega) (by omega)
    have z := hs_z (by omega) (fun q q1 q2 => hl q q1 (by omega)) a0
    subst z
    exact ⟨rfl, t0, t1, t2⟩
  · rintro ⟨h, t0, t1, t2⟩
    have h6 : m = 3 := by omega
    subst h6
    have e0 : hs T s 1 = 27 * hs T s 0 + T (s + 0) - 96 := hs_s (k := 0) (by decide)
    have e1 : hs T s 2 = 27 * hs T s 1 + T (s + 1) - 96 := hs_s (k := 1) (by decide)
    have e2 : hs T s 3 = 27 * hs T s 2 + T (s + 2) - 96 := hs_s (k := 2) (by decide)
    have ez : hs T s 0 = 0 := rfl
    omega
theorem hs_w3 {T : Int → Int} {s : Int} {m : Nat} (hm : m ≤ 9) (hl : ∀ q : Int, 0 ≤ q → q < m → q_let (T (s + q))) : hs T s m = 453774 ↔ q_w3 T s m := by
  constructor
  · intro h
    obtain ⟨k3, rfl, a3, t3⟩ := hs_st (by omega) (fun q q1 q2 => hl q q1 (by omega)) h (q := 16806) (c := 12) (by omega) (by omega) (by omega)
    obtain ⟨k2, rfl, a2, t2⟩ := hs_st (by omega) (fun q q1 q2 => hl q q1 (by omega)) a3 (q := 622) (c := 12) (by omega) (by omega) (by omega)
    obtain ⟨k1, rfl, a1, t1⟩ := hs_st (by omega) (fun q q1 q2 => hl q q1 (by omega)) a2 (q := 23) (c := 1) (by omega) (by omega) (by omega)
    obtain ⟨k0, rfl, a0, t0⟩ := hs_st (by omega) (fun q q1 q2 => hl q q1 (by omega)) a1 (q := 0) (c := 23) (by omega) (by omega) (by omega)
    have z := hs_z (by omega) (fun q q1 q2 => hl q q1 (by omega)) a0
    subst z
    exact ⟨rfl, t0, t1, t2, t3⟩
  · rintro ⟨h, t0, t1, t2, t3⟩
    have h6 : m = 4 := by omega
    subst h6
    have e0 : hs T s 1 = 27 * hs T s 0 + T (s + 0) - 96 := hs_s (k := 0) (by decide)
    have e1 : hs T s 2 = 27 * hs T s 1 + T (s + 1) - 96 := hs_s (k := 1) (by decide)
    have e2 : hs T s 3 = 27 * hs T s 2 + T (s + 2) - 96 := hs_s (k := 2) (by decide)
    have e3 : hs T s 4 = 27 * hs T s 3 + T (s + 3) - 96 := hs_s (k := 3) (by decide)
    have ez : hs T s 0 = 0 := rfl
    omega
theorem hs_w4 {T : Int → Int} {s : Int} {m : Nat} (hm : m ≤ 9) (hl : ∀ q : Int, 0 ≤ q → q < m → q_let (T (s + q))) : hs T s m = 82516 ↔ q_w4 T s m := by
  constructor
  · intro h
    obtain ⟨k3, rfl, a3, t3⟩ := hs_st (by omega) (fun q q1 q2 => hl q q1 (by omega)) h (q := 3056) (c := 4) (by omega) (by omega) (by omega)
    obtain ⟨k2, rfl, a2, t2⟩ := hs_st (by omega) (fun q q1 q2 => hl q q1 (by omega)) a3 (q := 113) (c := 5) (by omega) (by omega) (by omega)
    obtain ⟨k1, rfl, a1, t1⟩ := hs_st (by omega) (fun q q1 q2 => hl q q1 (by omega)) a2 (q := 4) (c := 5) (by omega) (by omega) (by omega)
    obtain ⟨k0, rfl, a0, t0⟩ := hs_st (by omega) (fun q q1 q2 => hl q q1 (by omega)) a1 (q := 0) (c := 4) (by omega) (by omega) (by omega)
    have z := hs_z (by omega) (fun q q1 q2 => hl q q1 (by omega)) a0
    subst z
    exact ⟨rfl, t0, t1, t2, t3⟩
  · rintro ⟨h, t0, t1, t2, t3⟩
    have h6 : m = 4 := by omega
    subst h6
    have e0 : hs T s 1 = 27 * hs T s 0 + T (s + 0) - 96 := hs_s (k := 0) (by decide)
    have e1 : hs T s 2 = 27 * hs T s 1 + T (s + 1) - 96 := hs_s (k := 1) (by decide)
    have e2 : hs T s 3 = 27 * hs T s 2 + T (s + 2) - 96 := hs_s (k := 2) (by decide)
    have e3 : hs T s 4 = 27 * hs T s 3 + T (s + 3) - 96 := hs_s (k := 3) (by decide)
    have ez : hs T s 0 = 0 := rfl
    omega
theorem hs_w5 {T : Int → Int} {s : Int} {m : Nat} (hm : m ≤ 9) (hl : ∀ q : Int, 0 ≤ q → q < m → q_let (T (s + q))) : hs T s m = 380230 ↔ q_w5 T s m := by
  constructor
  · intro h
    obtain ⟨k3, rfl, a3, t3⟩ := hs_st (by omega) (fun q q1 q2 => hl q q1 (by omega)) h (q := 14082) (c := 16) (by omega) (by omega) (by omega)
    obtain ⟨k2, rfl, a2, t2⟩ := hs_st (by omega) (fun q q1 q2 => hl q q1 (by omega)) a3 (q := 521) (c := 15) (by omega) (by omega) (by omega)
    obtain ⟨k1, rfl, a1, t1⟩ := hs_st (by omega) (fun q q1 q2 => hl q q1 (by omega)) a2 (q := 19) (c := 8) (by omega) (by omega) (by omega)
    obtain ⟨k0, rfl, a0, t0⟩ := hs_st (by omega) (fun q q1 q2 => hl q q1 (by omega)) a1 (q := 0) (c := 19) (by omega) (by omega) (by omega)
    have z := hs_z (by omega) (fun q q1 q2 => hl q q1 (by omega)) a0
    subst z
    exact ⟨rfl, t0, t1, t2, t3⟩
  · rintro ⟨h, t0, t1, t2, t3⟩
    have h6 : m = 4 := by omega
    subst h6
    have e0 : hs T s 1 = 27 * hs T s 0 + T (s + 0) - 96 := hs_s (k := 0) (by decide)
    have e1 : hs T s 2 = 27 * hs T s 1 + T (s + 1) - 96 := hs_s (k := 1) (by decide)
    have e2 : hs T s 3 = 27 * hs T s 2 + T (s + 2) - 96 := hs_s (k := 2) (by decide)
    have e3 : hs T s 4 = 27 * hs T s 3 + T (s + 3) - 96 := hs_s (k := 3) (by decide)
    have ez : hs T s 0 = 0 := rfl
    omega
theorem hs_w6 {T : Int → Int} {s : Int} {m : Nat} (hm : m ≤ 9) (hl : ∀ q : Int, 0 ≤ q → q < m → q_let (T (s + q))) : hs T s m = 400354 ↔ q_w6 T s m := by
  constructor
  · intro h
    obtain ⟨k3, rfl, a3, t3⟩ := hs_st (by omega) (fun q q1 q2 => hl q q1 (by omega)) h (q := 14827) (c := 25) (by omega) (by omega) (by omega)
    obtain ⟨k2, rfl, a2, t2⟩ := hs_st (by omega) (fun q q1 q2 => hl q q1 (by omega)) a3 (q := 549) (c := 4) (by omega) (by omega) (by omega)
    obtain ⟨k1, rfl, a1, t1⟩ := hs_st (by omega) (fun q q1 q2 => hl q q1 (by omega)) a2 (q := 20) (c := 9) (by omega) (by omega) (by omega)
    obtain ⟨k0, rfl, a0, t0⟩ := hs_st (by omega) (fun q q1 q2 => hl q q1 (by omega)) a1 (q := 0) (c := 20) (by omega) (by omega) (by omega)
    have z := hs_z (by omega) (fun q q1 q2 => hl q q1 (by omega)) a0
    subst z
    exact ⟨rfl, t0, t1, t2, t3⟩
  · rintro ⟨h, t0, t1, t2, t3⟩
    have h6 : m = 4 := by omega
    subst h6
    have e0 : hs T s 1 = 27 * hs T s 0 + T (s + 0) - 96 := hs_s (k := 0) (by decide)
    have e1 : hs T s 2 = 27 * hs T s 1 + T (s + 1) - 96 := hs_s (k := 1) (by decide)
    have e2 : hs T s 3 = 27 * hs T s 2 + T (s + 2) - 96 := hs_s (k := 2) (by decide)
    have e3 : hs T s 4 = 27 * hs T s 3 + T (s + 3) - 96 := hs_s (k := 3) (by decide)
    have ez : hs T s 0 = 0 := rfl
    omega
def kdT (T : Int → Int) (n s : Int) : Int := if tkK T n s = 1 then wdK T s (tkE T n s - s) else 0
theorem kdT_rg (T : Int → Int) (n s : Int) : 0 ≤ kdT T n s ∧ kdT T n s ≤ 7 := by
  have := wdK_rg T s (tkE T n s - s)
  unfold kdT
  split <;> omega
theorem hs_ub {T : Int → Int} {s : Int} : ∀ (m : Nat), m ≤ 9 → (∀ q : Int, 0 ≤ q → q < m → q_let (T (s + q))) → hs T s m < 27 ^ m
  | 0, _, _ => show (0 : Int) < 27 ^ 0 by decide
  | k + 1, h, hl => by
    have h1 := hs_ub k (by omega) (fun q q1 q2 => hl q q1 (by omega))
    have h2 := hl k (by omega) (by omega)
    rw [hs_s (by omega), Int.pow_succ]
    omega
theorem hs_lb {T : Int → Int} {s : Int} {m : Nat} (hm : m ≤ 9) (hl : ∀ q : Int, 0 ≤ q → q < m → q_let (T (s + q))) : LB (hs T s m) := by
  have h1 := hs_n m hm hl
  have h2 := hs_ub m hm hl
  have h3 : (27 : Int) ^ m ≤ 27 ^ 9 := by
    have : m = 0 ∨ m = 1 ∨ m = 2 ∨ m = 3 ∨ m = 4 ∨ m = 5 ∨ m = 6 ∨ m = 7 ∨ m = 8 ∨ m = 9 := by omega
    rcases this with rfl | rfl | rfl | rfl | rfl | rfl | rfl | rfl | rfl | rfl <;> decide
  have h4 : (27 : Int) ^ 9 = 7625597484987 := by decide
  exact ⟨by omega, by omega⟩
theorem tk_let {T : Int → Int} {n s : Int} (h : ¬ n ≤ s) (c : q_let (T s)) : tkE T n s = ru q_let T n s := by unfold tkE; rw [if_neg h, if_pos c]
theorem tkT_lb {T : Int → Int} {n s : Int} : LB (tkT T n s) := by
  unfold tkT
  by_cases h : n ≤ s
  · rw [if_pos h]; decide
  · rw [if_neg h]
    by_cases c : q_let (T s)
    · rw [if_pos c, tk_let h c]
      have rb := ru_bd (P := q_let) (T := T) (n := n) (p := s) (by omega)
      by_cases c2 : ru q_let T n s - s ≤ 9
      · rw [if_pos c2]
        exact hs_lb (by omega) (fun q q1 q2 => rb.2.2 _ (by omega) (by omega))
      · rw [if_neg c2]; decide
    · rw [if_neg c]
      (repeat' split) <;> decide
theorem tkT_w0 {T : Int → Int} {n s : Int} : jI (tkT T n s) = (283616147 : Int64) ↔ kdT T n s = 1 := by
  rw [show (283616147 : Int64) = jI 283616147 by decide, jI_eq tkT_lb (by decide)]
  unfold tkT kdT tkK
  by_cases h : n ≤ s
  · rw [if_pos h, if_pos h, if_neg (by decide)]; omega
  · rw [if_neg h, if_neg h]
    by_cases c : q_let (T s)
    · rw [if_pos c, if_pos c, if_pos rfl, tk_let h c]
      have rb := ru_bd (P := q_let) (T := T) (n := n) (p := s) (by omega)
      have hw : wdK T s (ru q_let T n s - s) = 1 ↔ q_w0 T s (ru q_let T n s - s) := by
        unfold wdK
        constructor
        · intro z
          (repeat' split at z) <;> first | assumption | omega
        · intro z
          (repeat' split) <;> omega
      rw [hw]
      by_cases c2 : ru q_let T n s - s ≤ 9
      · rw [if_pos c2]
        have := hs_w0 (T := T) (s := s) (m := (ru q_let T n s - s).toNat) (by omega) (fun q q1 q2 => rb.2.2 _ (by omega) (by omega))
        rwa [show (((ru q_let T n s - s).toNat : Nat) : Int) = ru q_let T n s - s by omega] at this
      · rw [if_neg c2]
        constructor
        · intro z; omega
        · intro z; omega
    · rw [if_neg c, if_neg c]
      constructor
      · intro z
        (repeat' split at z) <;> omega
      · intro z
        (repeat' split at z) <;> omega
theorem tkT_w1 {T : Int → Int} {n s : Int} : jI (tkT T n s) = (31519426 : Int64) ↔ kdT T n s = 2 := by
  rw [show (31519426 : Int64) = jI 31519426 by decide, jI_eq tkT_lb (by decide)]
  unfold tkT kdT tkK
  by_cases h : n ≤ s
  · rw [if_pos h, if_pos h, if_neg (by decide)]; omega
  · rw [if_neg h, if_neg h]
    by_cases c : q_let (T s)
    · rw [if_pos c, if_pos c, if_pos rfl, tk_let h c]
      have rb := ru_bd (P := q_let) (T := T) (n := n) (p := s) (by omega)
      have hw : wdK T s (ru q_let T n s - s) = 2 ↔ q_w1 T s (ru q_let T n s - s) := by
        unfold wdK
        constructor
        · intro z
          (repeat' split at z) <;> first | assumption | omega
        · intro z
          (repeat' split) <;> omega
      rw [hw]
      by_cases c2 : ru q_let T n s - s ≤ 9
      · rw [if_pos c2]
        have := hs_w1 (T := T) (s := s) (m := (ru q_let T n s - s).toNat) (by omega) (fun q q1 q2 => rb.2.2 _ (by omega) (by omega))
        rwa [show (((ru q_let T n s - s).toNat : Nat) : Int) = ru q_let T n s - s by omega] at this
      · rw [if_neg c2]
        constructor
        · intro z; omega
        · intro z; omega
    · rw [if_neg c, if_neg c]
      constructor
      · intro z
        (repeat' split at z) <;> omega
      · intro z
        (repeat' split at z) <;> omega
theorem tkT_w2 {T : Int → Int} {n s : Int} : jI (tkT T n s) = (16819 : Int64) ↔ kdT T n s = 3 := by
  rw [show (16819 : Int64) = jI 16819 by decide, jI_eq tkT_lb (by decide)]
  unfold tkT kdT tkK
  by_cases h : n ≤ s
  · rw [if_pos h, if_pos h, if_neg (by decide)]; omega
  · rw [if_neg h, if_neg h]
    by_cases c : q_let (T s)
    · rw [if_pos c, if_pos c, if_pos rfl, tk_let h c]
      have rb := ru_bd (P := q_let) (T := T) (n := n) (p := s) (by omega)
      have hw : wdK T s (ru q_let T n s - s) = 3 ↔ q_w2 T s (ru q_let T n s - s) := by
        unfold wdK
        constructor
        · intro z
          (repeat' split at z) <;> first | assumption | omega
        · intro z
          (repeat' split) <;> omega
      rw [hw]
      by_cases c2 : ru q_let T n s - s ≤ 9
      · rw [if_pos c2]
        have := hs_w2 (T := T) (s := s) (m := (ru q_let T n s - s).toNat) (by omega) (fun q q1 q2 => rb.2.2 _ (by omega) (by omega))
        rwa [show (((ru q_let T n s - s).toNat : Nat) : Int) = ru q_let T n s - s by omega] at this
      · rw [if_neg c2]
        constructor
        · intro z; omega
        · intro z; omega
    · rw [if_neg c, if_neg c]
      constructor
      · intro z
        (repeat' split at z) <;> omega
      · intro z
        (repeat' split at z) <;> omega
theorem tkT_w3 {T : Int → Int} {n s : Int} : jI (tkT T n s) = (453774 : Int64) ↔ kdT T n s = 4 := by
  rw [show (453774 : Int64) = jI 453774 by decide, jI_eq tkT_lb (by decide)]
  unfold tkT kdT tkK
  by_cases h : n ≤ s
  · rw [if_pos h, if_pos h, if_neg (by decide)]; omega
  · rw [if_neg h, if_neg h]
    by_cases c : q_let (T s)
    · rw [if_pos c, if_pos c, if_pos rfl, tk_let h c]
      have rb := ru_bd (P := q_let) (T := T) (n := n) (p := s) (by omega)
      have hw : wdK T s (ru q_let T n s - s) = 4 ↔ q_w3 T s (ru q_let T n s - s) := by
        unfold wdK
        constructor
        · intro z
          (repeat' split at z) <;> first | assumption | omega
        · intro z
          (repeat' split) <;> omega
      rw [hw]
      by_cases c2 : ru q_let T n s - s ≤ 9
      · rw [if_pos c2]
        have := hs_w3 (T := T) (s := s) (m := (ru q_let T n s - s).toNat) (by omega) (fun q q1 q2 => rb.2.2 _ (by omega) (by omega))
        rwa [show (((ru q_let T n s - s).toNat : Nat) : Int) = ru q_let T n s - s by omega] at this
      · rw [if_neg c2]
        constructor
        · intro z; omega
        · intro z; omega
    · rw [if_neg c, if_neg c]
      constructor
      · intro z
        (repeat' split at z) <;> omega
      · intro z
        (repeat' split at z) <;> omega
theorem tkT_w4 {T : Int → Int} {n s : Int} : jI (tkT T n s) = (82516 : Int64) ↔ kdT T n s = 5 := by
  rw [show (82516 : Int64) = jI 82516 by decide, jI_eq tkT_lb (by decide)]
  unfold tkT kdT tkK
  by_cases h : n ≤ s
  · rw [if_pos h, if_pos h, if_neg (by decide)]; omega
  · rw [if_neg h, if_neg h]
    by_cases c : q_let (T s)
    · rw [if_pos c, if_pos c, if_pos rfl, tk_let h c]
      have rb := ru_bd (P := q_let) (T := T) (n := n) (p := s) (by omega)
      have hw : wdK T s (ru q_let T n s - s) = 5 ↔ q_w4 T s (ru q_let T n s - s) := by
        unfold wdK
        constructor
        · intro z
          (repeat' split at z) <;> first | assumption | omega
        · intro z
          (repeat' split) <;> omega
      rw [hw]
      by_cases c2 : ru q_let T n s - s ≤ 9
      · rw [if_pos c2]
        have := hs_w4 (T := T) (s := s) (m := (ru q_let T n s - s).toNat) (by omega) (fun q q1 q2 => rb.2.2 _ (by omega) (by omega))
        rwa [show (((ru q_let T n s - s).toNat : Nat) : Int) = ru q_let T n s - s by omega] at this
      · rw [if_neg c2]
        constructor
        · intro z; omega
        · intro z; omega
    · rw [if_neg c, if_neg c]
      constructor
      · intro z
        (repeat' split at z) <;> omega
      · intro z
        (repeat' split at z) <;> omega
theorem tkT_w5 {T : Int → Int} {n s : Int} : jI (tkT T n s) = (380230 : Int64) ↔ kdT T n s = 6 := by
  rw [show (380230 : Int64) = jI 380230 by decide, jI_eq tkT_lb (by decide)]
  unfold tkT kdT tkK
  by_cases h : n ≤ s
  · rw [if_pos h, if_pos h, if_neg (by decide)]; omega
  · rw [if_neg h, if_neg h]
    by_cases c : q_let (T s)
    · rw [if_pos c, if_pos c, if_pos rfl, tk_let h c]
      have rb := ru_bd (P := q_let) (T := T) (n := n) (p := s) (by omega)
      have hw : wdK T s (ru q_let T n s - s) = 6 ↔ q_w5 T s (ru q_let T n s - s) := by
        unfold wdK
        constructor
        · intro z
          (repeat' split at z) <;> first | assumption | omega
        · intro z
          (repeat' split) <;> omega
      rw [hw]
      by_cases c2 : ru q_let T n s - s ≤ 9
      · rw [if_pos c2]
        have := hs_w5 (T := T) (s := s) (m := (ru q_let T n s - s).toNat) (by omega) (fun q q1 q2 => rb.2.2 _ (by omega) (by omega))
        rwa [show (((ru q_let T n s - s).toNat : Nat) : Int) = ru q_let T n s - s by omega] at this
      · rw [if_neg c2]
        constructor
        · intro z; omega
        · intro z; omega
    · rw [if_neg c, if_neg c]
      constructor
      · intro z
        (repeat' split at z) <;> omega
      · intro z
        (repeat' split at z) <;> omega
theorem tkT_w6 {T : Int → Int} {n s : Int} : jI (tkT T n s) = (400354 : Int64) ↔ kdT T n s = 7 := by
  rw [show (400354 : Int64) = jI 400354 by decide, jI_eq tkT_lb (by decide)]
  unfold tkT kdT tkK
  by_cases h : n ≤ s
  · rw [if_pos h, if_pos h, if_neg (by decide)]; omega
  · rw [if_neg h, if_neg h]
    by_cases c : q_let (T s)
    · rw [if_pos c, if_pos c, if_pos rfl, tk_let h c]
      have rb := ru_bd (P := q_let) (T := T) (n := n) (p := s) (by omega)
      have hw : wdK T s (ru q_let T n s - s) = 7 ↔ q_w6 T s (ru q_let T n s - s) := by
        unfold wdK
        constructor
        · intro z
          (repeat' split at z) <;> first | assumption | omega
        · intro z
          (repeat' split) <;> omega
      rw [hw]
      by_cases c2 : ru q_let T n s - s ≤ 9
      · rw [if_pos c2]
        have := hs_w6 (T := T) (s := s) (m := (ru q_let T n s - s).toNat) (by omega) (fun q q1 q2 => rb.2.2 _ (by omega) (by omega))
        rwa [show (((ru q_let T n s - s).toNat : Nat) : Int) = ru q_let T n s - s by omega] at this
      · rw [if_neg c2]
        constructor
        · intro z; omega
        · intro z; omega
    · rw [if_neg c, if_neg c]
      constructor
      · intro z
        (repeat' split at z) <;> omega
      · intro z
        (repeat' split at z) <;> omega
