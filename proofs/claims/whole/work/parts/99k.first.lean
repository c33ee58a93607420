/-! the first memory -/
def r0 (L : Int) (X : Nat → Int32) : rm := fun k j => if k = 998 then (if j = 0 then L else 0) else if k = 999 then (X j.toNat).toInt else tb k j
theorem r0_tb (L : Int) (X : Nat → Int32) {k : Nat} (j : Int) (h1 : k ≠ 998) (h2 : k ≠ 999) : r0 L X k j = tb k j := by
  unfold r0
  rw [if_neg h1, if_neg h2]
theorem tb_bd (k : Nat) (j : Int) : -1000 ≤ tb k j ∧ tb k j ≤ 1000 := by
  unfold tb iab
  (repeat' split) <;> omega
theorem lo_0 (j : Int) : loB 0 j ≤ 0 ∧ 0 ≤ hiB 0 j := by
  show (0 : Int) ≤ 0 ∧ (0 : Int) ≤ (0)
  omega
theorem lo_2 (j : Int) : loB 2 j ≤ 0 ∧ 0 ≤ hiB 2 j := by
  show (0 : Int) ≤ 0 ∧ (0 : Int) ≤ (if j = 4 then 10 else 0)
  (repeat' split) <;> omega
theorem lo_3 (j : Int) : loB 3 j ≤ 0 ∧ 0 ≤ hiB 3 j := by
  show (0 : Int) ≤ 0 ∧ (0 : Int) ≤ (if j = 0 then 6 else if j = 1 then 99 else if j = 2 then 5 else if j = 3 then 5 else if j = 4 then 200000 else 0)
  (repeat' split) <;> omega
theorem lo_4 (j : Int) : loB 4 j ≤ 0 ∧ 0 ≤ hiB 4 j := by
  show (0 : Int) ≤ 0 ∧ (0 : Int) ≤ (if j = 1 then 200 else 0)
  (repeat' split) <;> omega
theorem lo_5 (j : Int) : loB 5 j ≤ 0 ∧ 0 ≤ hiB 5 j := by
  show (if j = 7 then (-1) else 0 : Int) ≤ 0 ∧ (0 : Int) ≤ (if j = 0 then 10 else if j = 4 then 200 else if j = 5 then 4 else if j = 6 then 200 else if j = 7 then 9999 else if j = 8 then 10 else if j = 9 then 8 else if j = 10 then 10 else if j = 11 then 6 else 0)
  (repeat' split) <;> omega
theorem lo_6 (j : Int) : loB 6 j ≤ 0 ∧ 0 ≤ hiB 6 j := by
  show (0 : Int) ≤ 0 ∧ (0 : Int) ≤ (if j = 0 then 9 else if j = 1 then 99999 else 0)
  (repeat' split) <;> omega
theorem lo_7 (j : Int) : loB 7 j ≤ 0 ∧ 0 ≤ hiB 7 j := by
  show (0 : Int) ≤ 0 ∧ (0 : Int) ≤ (if j = 0 then 12 else if j = 1 then 200000 else if j = 2 then 12 else if j = 3 then 12 else 0)
  (repeat' split) <;> omega
theorem lo_8 (j : Int) : loB 8 j ≤ 0 ∧ 0 ≤ hiB 8 j := by
  show (0 : Int) ≤ 0 ∧ (0 : Int) ≤ (if j = 0 then 10 else 0)
  (repeat' split) <;> omega
theorem lo_9 (j : Int) : loB 9 j ≤ 0 ∧ 0 ≤ hiB 9 j := by
  show (0 : Int) ≤ 0 ∧ (0 : Int) ≤ (if j = 0 then 12 else 0)
  (repeat' split) <;> omega
theorem lo_10 (j : Int) : loB 10 j ≤ 0 ∧ 0 ≤ hiB 10 j := by
  show (0 : Int) ≤ 0 ∧ (0 : Int) ≤ (8991)
  omega
theorem lo_11 (j : Int) : loB 11 j ≤ 0 ∧ 0 ≤ hiB 11 j := by
  show (0 : Int) ≤ 0 ∧ (0 : Int) ≤ (999)
  omega
theorem lo_12 (j : Int) : loB 12 j ≤ 0 ∧ 0 ≤ hiB 12 j := by
  show (0 : Int) ≤ 0 ∧ (0 : Int) ≤ (99)
  omega
theorem lo_13 (j : Int) : loB 13 j ≤ 0 ∧ 0 ≤ hiB 13 j := by
  show (0 : Int) ≤ 0 ∧ (0 : Int) ≤ (9)
  omega
theorem lo_14 (j : Int) : loB 14 j ≤ 0 ∧ 0 ≤ hiB 14 j := by
  show (0 : Int) ≤ 0 ∧ (0 : Int) ≤ (9)
  omega
theorem lo_15 (j : Int) : loB 15 j ≤ 0 ∧ 0 ≤ hiB 15 j := by
  show (0 : Int) ≤ 0 ∧ (0 : Int) ≤ (99)
  omega
theorem lo_16 (j : Int) : loB 16 j ≤ 0 ∧ 0 ≤ hiB 16 j := by
  show (0 : Int) ≤ 0 ∧ (0 : Int) ≤ (0)
  omega
theorem lo_17 (j : Int) : loB 17 j ≤ 0 ∧ 0 ≤ hiB 17 j := by
  show (0 : Int) ≤ 0 ∧ (0 : Int) ≤ (1000000)
  omega
theorem lo_18 (j : Int) : loB 18 j ≤ 0 ∧ 0 ≤ hiB 18 j := by
  show (0 : Int) ≤ 0 ∧ (0 : Int) ≤ (1000000)
  omega
theorem lo_19 (j : Int) : loB 19 j ≤ 0 ∧ 0 ≤ hiB 19 j := by
  show (0 : Int) ≤ 0 ∧ (0 : Int) ≤ (1000000)
  omega
theorem lo_20 (j : Int) : loB 20 j ≤ 0 ∧ 0 ≤ hiB 20 j := by
  show (0 : Int) ≤ 0 ∧ (0 : Int) ≤ (1000000)
  omega
theorem lo_21 (j : Int) : loB 21 j ≤ 0 ∧ 0 ≤ hiB 21 j := by
  show (0 : Int) ≤ 0 ∧ (0 : Int) ≤ (1000000)
  omega
theorem lo_22 (j : Int) : loB 22 j ≤ 0 ∧ 0 ≤ hiB 22 j := by
  show (0 : Int) ≤ 0 ∧ (0 : Int) ≤ (1000000)
  omega
theorem lo_23 (j : Int) : loB 23 j ≤ 0 ∧ 0 ≤ hiB 23 j := by
  show (0 : Int) ≤ 0 ∧ (0 : Int) ≤ (1000000)
  omega
theorem lo_24 (j : Int) : loB 24 j ≤ 0 ∧ 0 ≤ hiB 24 j := by
  show (0 : Int) ≤ 0 ∧ (0 : Int) ≤ (1000000)
  omega
theorem lo_25 (j : Int) : loB 25 j ≤ 0 ∧ 0 ≤ hiB 25 j := by
  show (0 : Int) ≤ 0 ∧ (0 : Int) ≤ (1000000)
  omega
theorem lo_26 (j : Int) : loB 26 j ≤ 0 ∧ 0 ≤ hiB 26 j := by
  show (0 : Int) ≤ 0 ∧ (0 : Int) ≤ (1000000)
  omega
theorem lo_27 (j : Int) : loB 27 j ≤ 0 ∧ 0 ≤ hiB 27 j := by
  show (0 : Int) ≤ 0 ∧ (0 : Int) ≤ (9)
  omega
theorem lo_28 (j : Int) : loB 28 j ≤ 0 ∧ 0 ≤ hiB 28 j := by
  show (0 : Int) ≤ 0 ∧ (0 : Int) ≤ (1439)
  omega
theorem lo_29 (j : Int) : loB 29 j ≤ 0 ∧ 0 ≤ hiB 29 j := by
  show (0 : Int) ≤ 0 ∧ (0 : Int) ≤ (99)
  omega
theorem lo_30 (j : Int) : loB 30 j ≤ 0 ∧ 0 ≤ hiB 30 j := by
  show (0 : Int) ≤ 0 ∧ (0 : Int) ≤ (9)
  omega
theorem lo_31 (j : Int) : loB 31 j ≤ 0 ∧ 0 ≤ hiB 31 j := by
  show (0 : Int) ≤ 0 ∧ (0 : Int) ≤ (10)
  omega
theorem lo_32 (j : Int) : loB 32 j ≤ 0 ∧ 0 ≤ hiB 32 j := by
  show (0 : Int) ≤ 0 ∧ (0 : Int) ≤ (9)
  omega
theorem lo_33 (j : Int) : loB 33 j ≤ 0 ∧ 0 ≤ hiB 33 j := by
  show (0 : Int) ≤ 0 ∧ (0 : Int) ≤ (1439)
  omega
theorem lo_34 (j : Int) : loB 34 j ≤ 0 ∧ 0 ≤ hiB 34 j := by
  show (0 : Int) ≤ 0 ∧ (0 : Int) ≤ (1439)
  omega
theorem lo_35 (j : Int) : loB 35 j ≤ 0 ∧ 0 ≤ hiB 35 j := by
  show (0 : Int) ≤ 0 ∧ (0 : Int) ≤ (99)
  omega
theorem lo_36 (j : Int) : loB 36 j ≤ 0 ∧ 0 ≤ hiB 36 j := by
  show (0 : Int) ≤ 0 ∧ (0 : Int) ≤ (99)
  omega
theorem lo_37 (j : Int) : loB 37 j ≤ 0 ∧ 0 ≤ hiB 37 j := by
  show (0 : Int) ≤ 0 ∧ (0 : Int) ≤ (255)
  omega
theorem lo_38 (j : Int) : loB 38 j ≤ 0 ∧ 0 ≤ hiB 38 j := by
  show (0 : Int) ≤ 0 ∧ (0 : Int) ≤ (7)
  omega
theorem lo_39 (j : Int) : loB 39 j ≤ 0 ∧ 0 ≤ hiB 39 j := by
  show (0 : Int) ≤ 0 ∧ (0 : Int) ≤ (9999)
  omega
theorem lo_40 (j : Int) : loB 40 j ≤ 0 ∧ 0 ≤ hiB 40 j := by
  show ((-1) : Int) ≤ 0 ∧ (0 : Int) ≤ (9)
  omega
theorem lo_41 (j : Int) : loB 41 j ≤ 0 ∧ 0 ≤ hiB 41 j := by
  show (0 : Int) ≤ 0 ∧ (0 : Int) ≤ (99999)
  omega
theorem lo_42 (j : Int) : loB 42 j ≤ 0 ∧ 0 ≤ hiB 42 j := by
  show (0 : Int) ≤ 0 ∧ (0 : Int) ≤ (9)
  omega
theorem lo_43 (j : Int) : loB 43 j ≤ 0 ∧ 0 ≤ hiB 43 j := by
  show (0 : Int) ≤ 0 ∧ (0 : Int) ≤ (9)
  omega
theorem lo_44 (j : Int) : loB 44 j ≤ 0 ∧ 0 ≤ hiB 44 j := by
  show (0 : Int) ≤ 0 ∧ (0 : Int) ≤ (9)
  omega
theorem lo_45 (j : Int) : loB 45 j ≤ 0 ∧ 0 ≤ hiB 45 j := by
  show (0 : Int) ≤ 0 ∧ (0 : Int) ≤ (1439)
  omega
theorem lo_46 (j : Int) : loB 46 j ≤ 0 ∧ 0 ≤ hiB 46 j := by
  show ((-1) : Int) ≤ 0 ∧ (0 : Int) ≤ (9)
  omega
theorem lo_47 (j : Int) : loB 47 j ≤ 0 ∧ 0 ≤ hiB 47 j := by
  show (0 : Int) ≤ 0 ∧ (0 : Int) ≤ (1439)
  omega
theorem lo_48 (j : Int) : loB 48 j ≤ 0 ∧ 0 ≤ hiB 48 j := by
  show (0 : Int) ≤ 0 ∧ (0 : Int) ≤ (5)
  omega
theorem lo_49 (j : Int) : loB 49 j ≤ 0 ∧ 0 ≤ hiB 49 j := by
  show (0 : Int) ≤ 0 ∧ (0 : Int) ≤ (9)
  omega
theorem lo_50 (j : Int) : loB 50 j ≤ 0 ∧ 0 ≤ hiB 50 j := by
  show (0 : Int) ≤ 0 ∧ (0 : Int) ≤ (20000)
  omega
theorem lo_52 (j : Int) : loB 52 j ≤ 0 ∧ 0 ≤ hiB 52 j := by
  show (0 : Int) ≤ 0 ∧ (0 : Int) ≤ (999)
  omega
theorem lo_53 (j : Int) : loB 53 j ≤ 0 ∧ 0 ≤ hiB 53 j := by
  show (0 : Int) ≤ 0 ∧ (0 : Int) ≤ (99)
  omega
theorem lo_54 (j : Int) : loB 54 j ≤ 0 ∧ 0 ≤ hiB 54 j := by
  show (0 : Int) ≤ 0 ∧ (0 : Int) ≤ (if j % 3 = 2 then 99 else 9)
  (repeat' split) <;> omega
theorem lo_55 (j : Int) : loB 55 j ≤ 0 ∧ 0 ≤ hiB 55 j := by
  show (0 : Int) ≤ 0 ∧ (0 : Int) ≤ (if j % 3 = 0 then 9 else 1439)
  (repeat' split) <;> omega
theorem lo_56 (j : Int) : loB 56 j ≤ 0 ∧ 0 ≤ hiB 56 j := by
  show (0 : Int) ≤ 0 ∧ (0 : Int) ≤ (if j % 5 = 0 then 9 else 1439)
  (repeat' split) <;> omega
theorem lo_57 (j : Int) : loB 57 j ≤ 0 ∧ 0 ≤ hiB 57 j := by
  show (0 : Int) ≤ 0 ∧ (0 : Int) ≤ (100000)
  omega
theorem lo_58 (j : Int) : loB 58 j ≤ 0 ∧ 0 ≤ hiB 58 j := by
  show (0 : Int) ≤ 0 ∧ (0 : Int) ≤ (255)
  omega
theorem lo_59 (j : Int) : loB 59 j ≤ 0 ∧ 0 ≤ hiB 59 j := by
  show ((-1) : Int) ≤ 0 ∧ (0 : Int) ≤ (9999)
  omega
theorem lo_60 (j : Int) : loB 60 j ≤ 0 ∧ 0 ≤ hiB 60 j := by
  show (0 : Int) ≤ 0 ∧ (0 : Int) ≤ (if j % 2 = 0 then 9 else 99999)
  (repeat' split) <;> omega
theorem lo_61 (j : Int) : loB 61 j ≤ 0 ∧ 0 ≤ hiB 61 j := by
  show (0 : Int) ≤ 0 ∧ (0 : Int) ≤ (1)
  omega
theorem lo_62 (j : Int) : loB 62 j ≤ 0 ∧ 0 ≤ hiB 62 j := by
  show (0 : Int) ≤ 0 ∧ (0 : Int) ≤ (9)
  omega
theorem lo_63 (j : Int) : loB 63 j ≤ 0 ∧ 0 ≤ hiB 63 j := by
  show (0 : Int) ≤ 0 ∧ (0 : Int) ≤ (if j % 2 = 0 then 9 else 1439)
  (repeat' split) <;> omega
theorem lo_64 (j : Int) : loB 64 j ≤ 0 ∧ 0 ≤ hiB 64 j := by
  show (0 : Int) ≤ 0 ∧ (0 : Int) ≤ (if j % 3 = 0 then 5 else if j % 3 = 1 then 9 else 1439)
  (repeat' split) <;> omega
theorem lo_65 (j : Int) : loB 65 j ≤ 0 ∧ 0 ≤ hiB 65 j := by
  show ((-1) : Int) ≤ 0 ∧ (0 : Int) ≤ (10)
  omega
theorem lo_66 (j : Int) : loB 66 j ≤ 0 ∧ 0 ≤ hiB 66 j := by
  show (0 : Int) ≤ 0 ∧ (0 : Int) ≤ (9)
  omega
theorem lo_67 (j : Int) : loB 67 j ≤ 0 ∧ 0 ≤ hiB 67 j := by
  show (0 : Int) ≤ 0 ∧ (0 : Int) ≤ (1439)
  omega
theorem loB_o (d : Nat) (j : Int) : loB (68 + d) j = -2147483648 := by
  rw [Nat.add_comm]
  rfl
theorem hiB_o (d : Nat) (j : Int) : hiB (68 + d) j = 2147483647 := by
  rw [Nat.add_comm]
  rfl
theorem lo0 {k : Nat} (j : Int) (h1 : k ≠ 1) (h2 : k ≠ 51) : loB k j ≤ 0 ∧ 0 ≤ hiB k j := by
  by_cases hk : k < 68
  · have key : ∀ q : Fin 68, q.1 ≠ 1 → q.1 ≠ 51 → ∀ j : Int, loB q.1 j ≤ 0 ∧ 0 ≤ hiB q.1 j := by
      intro q hq1 hq2 j
      rcases q with ⟨q, hq⟩
      dsimp only at hq1 hq2 ⊢
      rcases (show q = 0 ∨ q = 1 ∨ q = 2 ∨ q = 3 ∨ q = 4 ∨ q = 5 ∨ q = 6 ∨ q = 7 ∨ q = 8 ∨ q = 9 ∨ q = 10 ∨ q = 11 ∨ q = 12 ∨ q = 13 ∨ q = 14 ∨ q = 15 ∨ q = 16 ∨ q = 17 ∨ q = 18 ∨ q = 19 ∨ q = 20 ∨ q = 21 ∨ q = 22 ∨ q = 23 ∨ q = 24 ∨ q = 25 ∨ q = 26 ∨ q = 27 ∨ q = 28 ∨ q = 29 ∨ q = 30 ∨ q = 31 ∨ q = 32 ∨ q = 33 ∨ q = 34 ∨ q = 35 ∨ q = 36 ∨ q = 37 ∨ q = 38 ∨ q = 39 ∨ q = 40 ∨ q = 41 ∨ q = 42 ∨ q = 43 ∨ q = 44 ∨ q = 45 ∨ q = 46 ∨ q = 47 ∨ q = 48 ∨ q = 49 ∨ q = 50 ∨ q = 51 ∨ q = 52 ∨ q = 53 ∨ q = 54 ∨ q = 55 ∨ q = 56 ∨ q = 57 ∨ q = 58 ∨ q = 59 ∨ q = 60 ∨ q = 61 ∨ q = 62 ∨ q = 63 ∨ q = 64 ∨ q = 65 ∨ q = 66 ∨ q = 67 by omega) with rfl | rfl | rfl | rfl | rfl | rfl | rfl | rfl | rfl | rfl | rfl | rfl | rfl | rfl | rfl | rfl | rfl | rfl | rfl | rfl | rfl | rfl | rfl | rfl | rfl | rfl | rfl | rfl | rfl | rfl | rfl | rfl | rfl | rfl | rfl | rfl | rfl | rfl | rfl | rfl | rfl | rfl | rfl | rfl | rfl | rfl | rfl | rfl | rfl | rfl | rfl | rfl | rfl | rfl | rfl | rfl | rfl | rfl | rfl | rfl | rfl | rfl | rfl | rfl | rfl | rfl | rfl | rfl
      · exact lo_0 j
      · exact absurd rfl hq1
      · exact lo_2 j
      · exact lo_3 j
      · exact lo_4 j
      · exact lo_5 j
      · exact lo_6 j
      · exact lo_7 j
      · exact lo_8 j
      · exact lo_9 j
      · exact lo_10 j
      · exact lo_11 j
      · exact lo_12 j
      · exact lo_13 j
      · exact lo_14 j
      · exact lo_15 j
      · exact lo_16 j
      · exact lo_17 j
      · exact lo_18 j
      · exact lo_19 j
      · exact lo_20 j
      · exact lo_21 j
      · exact lo_22 j
      · exact lo_23 j
      · exact lo_24 j
      · exact lo_25 j
      · exact lo_26 j
      · exact lo_27 j
      · exact lo_28 j
      · exact lo_29 j
      · exact lo_30 j
      · exact lo_31 j
      · exact lo_32 j
      · exact lo_33 j
      · exact lo_34 j
      · exact lo_35 j
      · exact lo_36 j
      · exact lo_37 j
      · exact lo_38 j
      · exact lo_39 j
      · exact lo_40 j
      · exact lo_41 j
      · exact lo_42 j
      · exact lo_43 j
      · exact lo_44 j
      · exact lo_45 j
      · exact lo_46 j
      · exact lo_47 j
      · exact lo_48 j
      · exact lo_49 j
      · exact lo_50 j
      · exact absurd rfl hq2
      · exact lo_52 j
      · exact lo_53 j
      · exact lo_54 j
      · exact lo_55 j
      · exact lo_56 j
      · exact lo_57 j
      · exact lo_58 j
      · exact lo_59 j
      · exact lo_60 j
      · exact lo_61 j
      · exact lo_62 j
      · exact lo_63 j
      · exact lo_64 j
      · exact lo_65 j
      · exact lo_66 j
      · exact lo_67 j
    exact key ⟨k, hk⟩ h1 h2 j
  · have e1 : loB k j = -2147483648 := by
      obtain ⟨d, rfl⟩ : ∃ d, k = 68 + d := ⟨k - 68, by omega⟩
      exact loB_o d j
    have e2 : hiB k j = 2147483647 := by
      obtain ⟨d, rfl⟩ : ∃ d, k = 68 + d := ⟨k - 68, by omega⟩
      exact hiB_o d j
    rw [e1, e2]
    omega
theorem TI_r0 {L : Int} (hL : 0 ≤ L ∧ L ≤ 2560) (X : Nat → Int32) : TI (r0 L X) := by
  refine ⟨fun k j hk => ?_, fun k j => ?_⟩
  · rw [r0_tb L X j (by omega) (by omega)]
    have := tb_bd k j
    omega
  · by_cases c1 : k = 998
    · rw [c1]
      show (-2147483648 : Int) ≤ (if j = 0 then L else 0) ∧ (if j = 0 then L else 0) ≤ 2147483647
      split <;> omega
    · by_cases c2 : k = 999
      · rw [c2]
        have := SB_of (X j.toNat)
        show (-2147483648 : Int) ≤ (X j.toNat).toInt ∧ (X j.toNat).toInt ≤ 2147483647
        omega
      · rw [r0_tb L X j c1 c2]
        by_cases c3 : k = 1
        · rw [c3]
          show (if j = 1 then (2 : Int) else 0) ≤ (if j = 1 then 4 else 0) ∧ (if j = 1 then (4 : Int) else 0) ≤ (if j = 1 then 10 else if j = 2 then 8 else 0)
          (repeat' split) <;> omega
        · by_cases c4 : k = 51
          · rw [c4]
            have l := (show loB 51 j = if j = 0 then 2 else 0 from rfl)
            have t := (show tb 51 j = if j = 0 then 4 else 0 from rfl)
            by_cases c5 : j = 0
            · rw [c5]
              exact ⟨show (2 : Int) ≤ 4 by decide, show (4 : Int) ≤ 10 by decide⟩
            · rw [l, t, if_neg c5, if_neg c5]
              refine ⟨Int.le_refl _, ?_⟩
              unfold hiB
              (repeat' split) <;> omega
          · have z := lo0 (k := k) j c3 c4
            unfold tb
            split
            · exact absurd rfl c3
            · show (0 : Int) ≤ _ ∧ _ ≤ (8991 : Int)
              split <;> omega
            · show (0 : Int) ≤ _ ∧ _ ≤ (999 : Int)
              split <;> omega
            · show (0 : Int) ≤ _ ∧ _ ≤ (99 : Int)
              split <;> omega
            · show (0 : Int) ≤ _ ∧ _ ≤ (1000000 : Int)
              split <;> omega
            · show (0 : Int) ≤ _ ∧ _ ≤ (1000000 : Int)
              have := iab_bd (1 - j)
              split <;> omega
            · show (0 : Int) ≤ _ ∧ _ ≤ (1000000 : Int)
              have := iab_bd (2 - j)
              split <;> omega
            · show (0 : Int) ≤ _ ∧ _ ≤ (1000000 : Int)
              have := iab_bd (3 - j)
              split <;> omega
            · show (-1 : Int) ≤ _ ∧ _ ≤ (9 : Int)
              split <;> omega
            · exact absurd rfl c4
            · show (0 : Int) ≤ _ ∧ _ ≤ (999 : Int)
              split <;> omega
            · show (0 : Int) ≤ _ ∧ _ ≤ (99 : Int)
              split <;> omega
            · show (0 : Int) ≤ _ ∧ _ ≤ (100000 : Int)
              have := iab_bd (j / 10 - j % 10)
              split <;> omega
            · exact z
theorem tb_d : ∀ a b : Fin 4, tb (17 + a.1) (b.1 : Int) = tb 57 (10 * (a.1 : Int) + (b.1 : Int)) ∧ tb 57 (10 * (a.1 : Int) + (b.1 : Int)) = tb 57 (10 * (b.1 : Int) + (a.1 : Int)) ∧ tb 57 (10 * (a.1 : Int) + (b.1 : Int)) ≤ 891 := by decide +kernel
theorem tb_dd : ∀ a : Fin 4, tb 57 (10 * (a.1 : Int) + (a.1 : Int)) = 0 := by decide +kernel
theorem tb_o : ∀ h : Fin 4, tb 10 (h.1 : Int) = sumR (tb 52) 1 h.1 := by decide +kernel
theorem RR_r0 {L : Int} (hL : 0 ≤ L ∧ L ≤ 2560) (X : Nat → Int32) : RR (r0 L X) := by
  have e52 : r0 L X 52 = tb 52 := funext fun j => r0_tb L X j (by decide) (by decide)
  have z : ∀ {k : Nat} {j : Int}, k ≠ 998 → k ≠ 999 → r0 L X k j = tb k j := fun h1 h2 => r0_tb L X _ h1 h2
  have v : ∀ {k : Nat} {j x : Int}, k ≠ 998 → k ≠ 999 → tb k j = x → r0 L X k j = x := fun h1 h2 h3 => (r0_tb L X _ h1 h2).trans h3
  have n4 : r0 L X 51 0 = 4 := v (by decide) (by decide) (by decide)
  have n1 : r0 L X 1 1 = 4 := v (by decide) (by decide) (by decide)
  have w1 : r0 L X 1 2 = 0 := v (by decide) (by decide) (by decide)
  have w4 : r0 L X 51 3 = 0 := v (by decide) (by decide) (by decide)
  have d1 : r0 L X 2 4 = 0 := v (by decide) (by decide) (by decide)
  have d4 : r0 L X 51 5 = 0 := v (by decide) (by decide) (by decide)
  have s1 : r0 L X 3 0 = 0 := v (by decide) (by decide) (by decide)
  have s4 : r0 L X 51 7 = 0 := v (by decide) (by decide) (by decide)
  have t1 : r0 L X 4 1 = 0 := v (by decide) (by decide) (by decide)
  have t4 : r0 L X 51 10 = 0 := v (by decide) (by decide) (by decide)
  have h1_ : r0 L X 6 0 = 0 := v (by decide) (by decide) (by decide)
  have h4_ : r0 L X 51 24 = 0 := v (by decide) (by decide) (by decide)
  have i1_ : r0 L X 6 1 = 0 := v (by decide) (by decide) (by decide)
  have i4_ : r0 L X 51 25 = 0 := v (by decide) (by decide) (by decide)
  have k1_ : r0 L X 7 0 = 0 := v (by decide) (by decide) (by decide)
  have k4_ : r0 L X 51 28 = 0 := v (by decide) (by decide) (by decide)
  have b1_ : r0 L X 8 0 = 0 := v (by decide) (by decide) (by decide)
  have b4_ : r0 L X 51 30 = 0 := v (by decide) (by decide) (by decide)
  have g1_ : r0 L X 9 0 = 0 := v (by decide) (by decide) (by decide)
  have g4_ : r0 L X 51 32 = 0 := v (by decide) (by decide) (by decide)
  refine ⟨TI_r0 hL X, ⟨n1.trans n4.symm, w1.trans w4.symm, v (by decide) (by decide) (by decide), fun h h1 h2 => ?_, fun h h1 h2 => ?_, fun k k1 k2 => ?_, fun h h1 h2 => ?_, fun a b a1 a2 b1 b2 => ?_, fun a a1 a2 => ?_⟩, ⟨d1.trans d4.symm, fun i i1 i2 => ?_⟩, ⟨fun i i1 i2 => ?_, fun i j i1 i2 i3 => ?_⟩, ⟨s1.trans s4.symm, fun i i1 i2 => ?_⟩, ⟨t1.trans t4.symm, fun j j1 j2 => ?_⟩, ⟨h1_.trans h4_.symm, ?_, i1_.trans i4_.symm, fun k k1 k2 => ?_⟩, ⟨k1_.trans k4_.symm, fun k k1 k2 => ?_⟩, ⟨b1_.trans b4_.symm, fun k k1 k2 => ?_⟩, ⟨g1_.trans g4_.symm, fun k k1 k2 => ?_⟩⟩
  · rw [z (by decide) (by decide), z (by decide) (by decide)]
    show (if 1 ≤ h ∧ h < 10 then (1 : Int) else 0) = if 0 ≤ h ∧ h < 10 then 1 else 0
    rw [if_pos ⟨h1, h2⟩, if_pos (by omega)]
  · rw [z (by decide) (by decide), z (by decide) (by decide)]
    show (if 0 ≤ h ∧ h < 10 then (1 : Int) else 0) = if 0 ≤ h ∧ h < 10 then 1 else 0
    rfl
  · omega
  · rw [n4] at h2
    have t := tb_o ⟨h.toNat, by omega⟩
    dsimp only at t
    rw [Int.toNat_of_nonneg h1] at t
    rw [e52, z (by decide) (by decide)]
    exact t
  · rw [n4] at a2 b2
    have t := tb_d ⟨a.toNat, by omega⟩ ⟨b.toNat, by omega⟩
    dsimp only at t ⊢
    rw [Int.toNat_of_nonneg a1, Int.toNat_of_nonneg b1] at t
    rw [Int.min_eq_left (by omega), z (by omega) (by omega), z (by decide) (by decide), z (by decide) (by decide)]
    exact t
  · rw [n4] at a2
    have t := tb_dd ⟨a.toNat, by omega⟩
    dsimp only at t
    rw [Int.toNat_of_nonneg a1] at t
    rw [z (by decide) (by decide)]
    exact t
  · omega
  · omega
  · omega
  · omega
  · omega
  · rw [h4_, n4]
    decide
  · have e40 : r0 L X 40 k = -1 := by
      rw [z (by decide) (by decide)]
      show (if 0 ≤ k ∧ k < 2 then (-1 : Int) else 0) = -1
      rw [if_pos ⟨k1, k2⟩]
    have e61 : r0 L X 61 k = 0 := by
      rw [z (by decide) (by decide)]
      rfl
    exact ⟨⟨fun _ => e61, fun _ => e40⟩, fun y => absurd e61 y⟩
  · omega
  · omega
  · omega
theorem SCR_r0 {L : Int} (X : Nat → Int32) (τ : Int64) : SCR L X (toM (r0 L X) τ) := by
  refine ⟨rfl, ?_⟩
  funext j
  show iI (X ((j : Int)).toNat).toInt = X j
  rw [Int.toNat_natCast, iI_of]
