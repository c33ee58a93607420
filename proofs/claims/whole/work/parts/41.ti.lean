/-! what the cells hold, by ranges (wip/gen/ti.py) -/
def loB (k : Nat) (j : Int) : Int := match k with
  | 0 => 0
  | 1 => if j = 1 then 2 else 0
  | 2 => 0
  | 3 => 0
  | 4 => 0
  | 5 => if j = 7 then (-1) else 0
  | 6 => 0
  | 7 => 0
  | 8 => 0
  | 9 => 0
  | 10 => 0
  | 11 => 0
  | 12 => 0
  | 13 => 0
  | 14 => 0
  | 15 => 0
  | 16 => 0
  | 17 => 0
  | 18 => 0
  | 19 => 0
  | 20 => 0
  | 21 => 0
  | 22 => 0
  | 23 => 0
  | 24 => 0
  | 25 => 0
  | 26 => 0
  | 27 => 0
  | 28 => 0
  | 29 => 0
  | 30 => 0
  | 31 => 0
  | 32 => 0
  | 33 => 0
  | 34 => 0
  | 35 => 0
  | 36 => 0
  | 37 => 0
  | 38 => 0
  | 39 => 0
  | 40 => (-1)
  | 41 => 0
  | 42 => 0
  | 43 => 0
  | 44 => 0
  | 45 => 0
  | 46 => (-1)
  | 47 => 0
  | 48 => 0
  | 49 => 0
  | 50 => 0
  | 51 => if j = 0 then 2 else 0
  | 52 => 0
  | 53 => 0
  | 54 => 0
  | 55 => 0
  | 56 => 0
  | 57 => 0
  | 58 => 0
  | 59 => (-1)
  | 60 => 0
  | 61 => 0
  | 62 => 0
  | 63 => 0
  | 64 => 0
  | 65 => (-1)
  | 66 => 0
  | 67 => 0
  | _ => -2147483648
def hiB (k : Nat) (j : Int) : Int := match k with
  | 0 => 0
  | 1 => if j = 1 then 10 else if j = 2 then 8 else 0
  | 2 => if j = 4 then 10 else 0
  | 3 => if j = 0 then 6 else if j = 1 then 99 else if j = 2 then 5 else if j = 3 then 5 else if j = 4 then 200000 else 0
  | 4 => if j = 1 then 200 else 0
  | 5 => if j = 0 then 10 else if j = 4 then 200 else if j = 5 then 4 else if j = 6 then 200 else if j = 7 then 9999 else if j = 8 then 10 else if j = 9 then 8 else if j = 10 then 10 else if j = 11 then 6 else 0
  | 6 => if j = 0 then 9 else if j = 1 then 99999 else 0
  | 7 => if j = 0 then 12 else if j = 1 then 200000 else if j = 2 then 12 else if j = 3 then 12 else 0
  | 8 => if j = 0 then 10 else 0
  | 9 => if j = 0 then 12 else 0
  | 10 => 8991
  | 11 => 999
  | 12 => 99
  | 13 => 9
  | 14 => 9
  | 15 => 99
  | 16 => 0
  | 17 => 1000000
  | 18 => 1000000
  | 19 => 1000000
  | 20 => 1000000
  | 21 => 1000000
  | 22 => 1000000
  | 23 => 1000000
  | 24 => 1000000
  | 25 => 1000000
  | 26 => 1000000
  | 27 => 9
  | 28 => 1439
  | 29 => 99
  | 30 => 9
  | 31 => 10
  | 32 => 9
  | 33 => 1439
  | 34 => 1439
  | 35 => 99
  | 36 => 99
  | 37 => 255
  | 38 => 7
  | 39 => 9999
  | 40 => 9
  | 41 => 99999
  | 42 => 9
  | 43 => 9
  | 44 => 9
  | 45 => 1439
  | 46 => 9
  | 47 => 1439
  | 48 => 5
  | 49 => 9
  | 50 => 20000
  | 51 => if j = 0 then 10 else if j = 3 then 8 else if j = 5 then 10 else if j = 7 then 6 else if j = 10 then 200 else if j = 12 then 200 else if j = 13 then 200 else if j = 15 then 200 else if j = 16 then 9999 else if j = 17 then 200 else if j = 18 then 10 else if j = 19 then 10 else if j = 20 then 8 else if j = 21 then 10 else if j = 22 then 6 else if j = 24 then 9 else if j = 25 then 99999 else if j = 28 then 12 else if j = 30 then 10 else if j = 32 then 12 else 0
  | 52 => 999
  | 53 => 99
  | 54 => if j % 3 = 2 then 99 else 9
  | 55 => if j % 3 = 0 then 9 else 1439
  | 56 => if j % 5 = 0 then 9 else 1439
  | 57 => 100000
  | 58 => 255
  | 59 => 9999
  | 60 => if j % 2 = 0 then 9 else 99999
  | 61 => 1
  | 62 => 9
  | 63 => if j % 2 = 0 then 9 else 1439
  | 64 => if j % 3 = 0 then 5 else if j % 3 = 1 then 9 else 1439
  | 65 => 10
  | 66 => 9
  | 67 => 1439
  | _ => 2147483647
def TI (ρ : rm) : Prop := BM ρ ∧ ∀ (k : Nat) (j : Int), loB k j ≤ ρ k j ∧ ρ k j ≤ hiB k j
theorem row_bd {k : Nat} (h : 17 ≤ k ∧ k < 27) (j : Int) : loB k j = 0 ∧ hiB k j = 1000000 := by
  rcases (show k = 17 ∨ k = 18 ∨ k = 19 ∨ k = 20 ∨ k = 21 ∨ k = 22 ∨ k = 23 ∨ k = 24 ∨ k = 25 ∨ k = 26 by omega) with rfl | rfl | rfl | rfl | rfl | rfl | rfl | rfl | rfl | rfl <;> exact ⟨rfl, rfl⟩
theorem TI.row {ρ : rm} (h : TI ρ) {k : Nat} (hk : 17 ≤ k ∧ k < 27) (j : Int) : 0 ≤ ρ k j ∧ ρ k j ≤ 1000000 := by
  have := h.2 k j
  rwa [(row_bd hk j).1, (row_bd hk j).2] at this
theorem TI_up {ρ : rm} (h : TI ρ) (k : Nat) (i : Int) {x : Int} (hx : loB k i ≤ x ∧ x ≤ hiB k i) (hb : -2000000 ≤ x ∧ x ≤ 2000000) : TI (rup ρ k i x) := by
  refine ⟨BM_up h.1 k i hb, fun a j => ?_⟩
  unfold rup
  split
  · rename_i z
    rw [z.1, z.2]
    exact hx
  · exact h.2 a j
theorem TI_upR {ρ : rm} (h : TI ρ) {k : Nat} (hk : 17 ≤ k ∧ k < 27) (i : Int) {x : Int} (hx : 0 ≤ x ∧ x ≤ 1000000) : TI (rup ρ k i x) := TI_up h k i (by rw [(row_bd hk i).1, (row_bd hk i).2]; exact hx) ⟨by omega, by omega⟩
theorem T54a {ρ : rm} (h : TI ρ) (d : Int) : 0 ≤ ρ 54 (3 * d) ∧ ρ 54 (3 * d) ≤ 9 := by
  have := h.2 54 (3 * d)
  rwa [show loB 54 (3 * d) = 0 from rfl, show hiB 54 (3 * d) = if (3 * d) % 3 = 2 then 99 else 9 from rfl, if_neg (by omega)] at this
theorem T54b {ρ : rm} (h : TI ρ) (d : Int) : 0 ≤ ρ 54 (3 * d + 1) ∧ ρ 54 (3 * d + 1) ≤ 9 := by
  have := h.2 54 (3 * d + 1)
  rwa [show loB 54 (3 * d + 1) = 0 from rfl, show hiB 54 (3 * d + 1) = if (3 * d + 1) % 3 = 2 then 99 else 9 from rfl, if_neg (by omega)] at this
theorem T55a {ρ : rm} (h : TI ρ) (d : Int) : 0 ≤ ρ 55 (3 * d) ∧ ρ 55 (3 * d) ≤ 9 := by
  have := h.2 55 (3 * d)
  rwa [show loB 55 (3 * d) = 0 from rfl, show hiB 55 (3 * d) = if (3 * d) % 3 = 0 then 9 else 1439 from rfl, if_pos (by omega)] at this
theorem T56a {ρ : rm} (h : TI ρ) (d : Int) : 0 ≤ ρ 56 (5 * d) ∧ ρ 56 (5 * d) ≤ 9 := by
  have := h.2 56 (5 * d)
  rwa [show loB 56 (5 * d) = 0 from rfl, show hiB 56 (5 * d) = if (5 * d) % 5 = 0 then 9 else 1439 from rfl, if_pos (by omega)] at this
theorem T60a {ρ : rm} (h : TI ρ) (d : Int) : 0 ≤ ρ 60 (2 * d) ∧ ρ 60 (2 * d) ≤ 9 := by
  have := h.2 60 (2 * d)
  rwa [show loB 60 (2 * d) = 0 from rfl, show hiB 60 (2 * d) = if (2 * d) % 2 = 0 then 9 else 99999 from rfl, if_pos (by omega)] at this
theorem T63a {ρ : rm} (h : TI ρ) (d : Int) : 0 ≤ ρ 63 (4 * d) ∧ ρ 63 (4 * d) ≤ 9 := by
  have := h.2 63 (4 * d)
  rwa [show loB 63 (4 * d) = 0 from rfl, show hiB 63 (4 * d) = if (4 * d) % 2 = 0 then 9 else 1439 from rfl, if_pos (by omega)] at this
theorem T63b {ρ : rm} (h : TI ρ) (d : Int) : 0 ≤ ρ 63 (4 * d + 2) ∧ ρ 63 (4 * d + 2) ≤ 9 := by
  have := h.2 63 (4 * d + 2)
  rwa [show loB 63 (4 * d + 2) = 0 from rfl, show hiB 63 (4 * d + 2) = if (4 * d + 2) % 2 = 0 then 9 else 1439 from rfl, if_pos (by omega)] at this
theorem T64a {ρ : rm} (h : TI ρ) (d : Int) : 0 ≤ ρ 64 (3 * d) ∧ ρ 64 (3 * d) ≤ 5 := by
  have := h.2 64 (3 * d)
  rwa [show loB 64 (3 * d) = 0 from rfl, show hiB 64 (3 * d) = if (3 * d) % 3 = 0 then 5 else if (3 * d) % 3 = 1 then 9 else 1439 from rfl, if_pos (by omega)] at this
theorem T64b {ρ : rm} (h : TI ρ) (d : Int) : 0 ≤ ρ 64 (3 * d + 1) ∧ ρ 64 (3 * d + 1) ≤ 9 := by
  have := h.2 64 (3 * d + 1)
  rwa [show loB 64 (3 * d + 1) = 0 from rfl, show hiB 64 (3 * d + 1) = if (3 * d + 1) % 3 = 0 then 5 else if (3 * d + 1) % 3 = 1 then 9 else 1439 from rfl, if_neg (by omega), if_pos (by omega)] at this
section TIJ
variable {y pc : Nat} {lv : List (Option Value)} {ρ : rm} {τ : Int64} {Q : Option Value → mm → Prop} {r : List Value} {μ : mm}
theorem j_ialoadB {k n : Nat} {s0 : List Nat} {i v : Int} (hi : ins y pc = some .iaload) (hs : shp[k]? = some (100, n, s0)) (hb : 0 ≤ i ∧ i < n) (hn : n ≤ 1000) (hv : ρ k i = v) : G y pc lv (vI i :: .ref k :: r) (toM ρ τ) Q = G y (pc + 1) lv (vI v :: r) (toM ρ τ) Q := by
  rw [j_iaload hi hs ⟨by omega, by omega⟩ hv (fun _ => rfl), if_pos hb]
theorem j_baloadB {k n : Nat} {s0 : List Nat} {i v : Int} (hi : ins y pc = some .baload) (hs : shp[k]? = some (101, n, s0)) (hb : 0 ≤ i ∧ i < n) (hn : n ≤ 1000) (hv : ρ k i = v) : G y pc lv (vI i :: .ref k :: r) (toM ρ τ) Q = G y (pc + 1) lv (vI v :: r) (toM ρ τ) Q := by
  rw [j_baload hi hs ⟨by omega, by omega⟩ hv (fun _ => rfl), if_pos hb]
theorem j_iastoreB {k n : Nat} {s0 : List Nat} {i x : Int} (hi : ins y pc = some .iastore) (hs : shp[k]? = some (100, n, s0)) (hb : 0 ≤ i ∧ i < n) (hn : n ≤ 1000) : G y pc lv (vI x :: vI i :: .ref k :: r) (toM ρ τ) Q = G y (pc + 1) lv r (toM (rup ρ k i x) τ) Q := by
  rw [j_iastore hi hs ⟨by omega, by omega⟩ (fun _ => rfl), if_pos hb]
theorem j_bastoreB {k n : Nat} {s0 : List Nat} {i x : Int} (hi : ins y pc = some .bastore) (hs : shp[k]? = some (101, n, s0)) (hb : 0 ≤ i ∧ i < n) (hn : n ≤ 1000) (hx : vp_nar .boolean (iI x) = iI x) : G y pc lv (vI x :: vI i :: .ref k :: r) (toM ρ τ) Q = G y (pc + 1) lv r (toM (rup ρ k i x) τ) Q := by
  rw [j_bastore hi hs ⟨by omega, by omega⟩ hx (fun _ => rfl), if_pos hb]
theorem j_aaloadB {i : Int} (hi : ins y pc = some .aaload) (hb : 0 ≤ i ∧ i < 10) : G y pc lv (vI i :: .ref 16 :: r) μ Q = G y (pc + 1) lv (.ref (17 + i.toNat) :: r) μ Q := by
  rw [j_aaload hi ⟨by omega, by omega⟩ (fun _ => rfl), if_pos hb]
theorem j_ifT_eq {P : Prop} [Decidable P] {off : Int} {tgt : Nat} (hi : ins y pc = some (.ifCond .eq off)) (ht : (pc : Int) + off = (tgt : Int)) {A B : Prop} (hA : P → G y (pc + 3) lv r μ Q = A) (hB : ¬ P → G y tgt lv r μ Q = B) : G y pc lv (vI (tv P) :: r) μ Q = (if P then A else B) := by
  by_cases h : P
  · rw [if_pos h, tv_t h, j_if_eq hi ht (by decide) (fun _ => rfl) (fun _ => rfl), if_neg (by decide)]; exact hA h
  · rw [if_neg h, tv_f h, j_if_eq hi ht (by decide) (fun _ => rfl) (fun _ => rfl), if_pos rfl]; exact hB h
theorem j_ifT_ne {P : Prop} [Decidable P] {off : Int} {tgt : Nat} (hi : ins y pc = some (.ifCond .ne off)) (ht : (pc : Int) + off = (tgt : Int)) {A B : Prop} (hA : P → G y tgt lv r μ Q = A) (hB : ¬ P → G y (pc + 3) lv r μ Q = B) : G y pc lv (vI (tv P) :: r) μ Q = (if P then A else B) := by
  by_cases h : P
  · rw [if_pos h, tv_t h, j_if_ne hi ht (by decide) (fun _ => rfl) (fun _ => rfl), if_neg (by decide)]; exact hA h
  · rw [if_neg h, tv_f h, j_if_ne hi ht (by decide) (fun _ => rfl) (fun _ => rfl), if_pos rfl]; exact hB h
end TIJ
