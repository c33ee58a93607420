/-! the small machine over whole numbers -/
def iI (z : Int) : Int32 := Int32.ofInt z
abbrev vI (z : Int) : Value := .int (iI z)
abbrev SB (z : Int) : Prop := -2147483648 ≤ z ∧ z < 2147483648
theorem iI_toInt {z : Int} (h : SB z) : (iI z).toInt = z := Int32.toInt_ofInt_of_le h.1 h.2
theorem iI_of (x : Int32) : iI x.toInt = x := Int32.ofInt_toInt x
theorem SB_of (x : Int32) : SB x.toInt := ⟨Int32.le_toInt x, Int32.toInt_lt x⟩
theorem iI_lt {a b : Int} (ha : SB a) (hb : SB b) : iI a < iI b ↔ a < b := by rw [Int32.lt_iff_toInt_lt, iI_toInt ha, iI_toInt hb]
theorem iI_le {a b : Int} (ha : SB a) (hb : SB b) : iI a ≤ iI b ↔ a ≤ b := by rw [Int32.le_iff_toInt_le, iI_toInt ha, iI_toInt hb]
theorem iI_eq {a b : Int} (ha : SB a) (hb : SB b) : iI a = iI b ↔ a = b := by
  constructor
  · intro h
    have := congrArg Int32.toInt h
    rwa [iI_toInt ha, iI_toInt hb] at this
  · intro h; rw [h]
theorem iI_add (a b : Int) : iI a + iI b = iI (a + b) := (Int32.ofInt_add a b).symm
theorem iI_sub (a b : Int) : iI a - iI b = iI (a - b) := (Int32.ofInt_sub a b).symm
theorem iI_mul (a b : Int) : iI a * iI b = iI (a * b) := (Int32.ofInt_mul a b).symm
theorem iI_neg (a : Int) : -iI a = iI (-a) := (Int32.ofInt_neg a).symm
theorem iI_0 : (0 : Int32) = iI 0 := rfl
theorem iI_cl {z : Int} (h : SB z) : (iI z).toNatClampNeg = z.toNat := by
  show (iI z).toInt.toNat = _
  rw [iI_toInt h]
theorem iI_idx {i : Int} {n : Nat} (h : SB i) : (iI i < 0 ∨ n ≤ (iI i).toNatClampNeg) ↔ ¬ (0 ≤ i ∧ i < n) := by
  rw [iI_0, iI_lt h (by decide), iI_cl h]
  omega
/-- the memory as whole numbers -/
abbrev rm : Type := Nat → Int → Int
def toM (ρ : rm) (τ : Int64) : mm := (fun k j => iI (ρ k (j : Int)), τ)
def rup (ρ : rm) (k : Nat) (i x : Int) : rm := fun a j => if a = k ∧ j = i then x else ρ a j
theorem toM_up (ρ : rm) (τ : Int64) (k : Nat) {i x : Int} (h : 0 ≤ i) : mup (toM ρ τ) k i.toNat (iI x) = toM (rup ρ k i x) τ := by
  unfold mup toM
  refine congrArg (fun f => (f, τ)) ?_
  funext a j
  by_cases ha : a = k
  · subst ha
    simp only [if_true, upd, rup, true_and]
    by_cases hj : j = i.toNat
    · have : (j : Int) = i := by omega
      rw [if_pos hj, if_pos this]
    · have : ¬ (j : Int) = i := by omega
      rw [if_neg hj, if_neg this]
  · simp [ha, rup]
theorem toM_upN (ρ : rm) (τ : Int64) (k j : Nat) {x : Int} : mup (toM ρ τ) k j (iI x) = toM (rup ρ k (j : Int) x) τ := by
  have := toM_up ρ τ k (i := (j : Int)) (x := x) (by omega)
  rwa [Int.toNat_natCast] at this
theorem if_eq' {c c' : Prop} {A B A' B' : Prop} {i1 : Decidable c} {i2 : Decidable c'} (hc : c ↔ c') (hA : c' → A = A') (hB : ¬ c' → B = B') : (@ite _ c i1 A B) = (@ite _ c' i2 A' B') := by
  by_cases h : c'
  · rw [if_pos h, if_pos (hc.mpr h), hA h]
  · rw [if_neg h, if_neg (fun z => h (hc.mp z)), hB h]
section JL
variable {y pc pc' : Nat} {lv lv' : List (Option Value)} {st st' : List Value} {ρ : rm} {τ : Int64} {Q : Option Value → mm → Prop} {r : List Value} {μ : mm}
theorem j_iconst {n : Int} (hi : ins y pc = some (.iconst n)) : G y pc lv st μ Q = G y (pc + 1) lv (vI n :: st) μ Q := g_iconst hi rfl
theorem j_bipush {n : Int} (hi : ins y pc = some (.bipush n)) (hn : (Int8.ofInt n).toInt32 = iI n) : G y pc lv st μ Q = G y (pc + 2) lv (vI n :: st) μ Q := g_bipush hi hn
theorem j_sipush {n : Int} (hi : ins y pc = some (.sipush n)) (hn : (Int16.ofInt n).toInt32 = iI n) : G y pc lv st μ Q = G y (pc + 3) lv (vI n :: st) μ Q := g_sipush hi hn
theorem j_ldc {i : Nat} {n : Int} {x : Int32} (hi : ins y pc = some (.ldc i)) (hx : cst (mo y) i = some (.int x)) (hn : x = iI n) : G y pc lv st μ Q = G y (pc + 2) lv (vI n :: st) μ Q := by subst hn; exact g_ldc hi hx
theorem j_iinc {i : Nat} {n x : Int} (hi : ins y pc = some (.iinc i n)) (hx : lv[i]? = some (some (vI x))) (hk : i < mL y) (hn : nolong i lv = true) (hl : sl i (some (vI (x + n))) lv = lv') : G y pc lv st μ Q = G y (pc + 3) lv' st μ Q := g_iinc hi hx rfl hk hn (by rw [show Int32.ofInt n = iI n from rfl, iI_add]; exact hl)
theorem j_iadd {a b : Int} (hi : ins y pc = some .iadd) : G y pc lv (vI b :: vI a :: r) μ Q = G y (pc + 1) lv (vI (a + b) :: r) μ Q := by rw [g_iadd hi, iI_add]
theorem j_isub {a b : Int} (hi : ins y pc = some .isub) : G y pc lv (vI b :: vI a :: r) μ Q = G y (pc + 1) lv (vI (a - b) :: r) μ Q := by rw [g_isub hi, iI_sub]
theorem j_imul {a b : Int} (hi : ins y pc = some .imul) : G y pc lv (vI b :: vI a :: r) μ Q = G y (pc + 1) lv (vI (a * b) :: r) μ Q := by rw [g_imul hi, iI_mul]
theorem j_ineg {a : Int} (hi : ins y pc = some .ineg) : G y pc lv (vI a :: r) μ Q = G y (pc + 1) lv (vI (-a) :: r) μ Q := by rw [g_ineg hi, iI_neg]
theorem j_if_eq {off x : Int} {tgt : Nat} (hi : ins y pc = some (.ifCond .eq off)) (ht : (pc : Int) + off = (tgt : Int)) (hx : SB x) {P N : Prop} (hP : x = 0 → G y tgt lv r μ Q = P) (hN : ¬ x = 0 → G y (pc + 3) lv r μ Q = N) : G y pc lv (vI x :: r) μ Q = (if x = 0 then P else N) := (g_if_eq hi ht).trans (if_eq' (by rw [iI_0, iI_eq hx (by decide)]) hP hN)
theorem j_if_ne {off x : Int} {tgt : Nat} (hi : ins y pc = some (.ifCond .ne off)) (ht : (pc : Int) + off = (tgt : Int)) (hx : SB x) {P N : Prop} (hN : x = 0 → G y (pc + 3) lv r μ Q = P) (hP : ¬ x = 0 → G y tgt lv r μ Q = N) : G y pc lv (vI x :: r) μ Q = (if x = 0 then P else N) := (g_if_ne hi ht).trans (if_eq' (by rw [iI_0, iI_eq hx (by decide)]) hN hP)
theorem j_if_lt {off x : Int} {tgt : Nat} (hi : ins y pc = some (.ifCond .lt off)) (ht : (pc : Int) + off = (tgt : Int)) (hx : SB x) {P N : Prop} (hP : x < 0 → G y tgt lv r μ Q = P) (hN : ¬ x < 0 → G y (pc + 3) lv r μ Q = N) : G y pc lv (vI x :: r) μ Q = (if x < 0 then P else N) := (g_if_lt hi ht).trans (if_eq' (by rw [iI_0, iI_lt hx (by decide)]) hP hN)
theorem j_if_ge {off x : Int} {tgt : Nat} (hi : ins y pc = some (.ifCond .ge off)) (ht : (pc : Int) + off = (tgt : Int)) (hx : SB x) {P N : Prop} (hP : 0 ≤ x → G y tgt lv r μ Q = P) (hN : ¬ 0 ≤ x → G y (pc + 3) lv r μ Q = N) : G y pc lv (vI x :: r) μ Q = (if 0 ≤ x then P else N) := (g_if_ge hi ht).trans (if_eq' (by rw [iI_0, iI_le (by decide) hx]) hP hN)
theorem j_if_gt {off x : Int} {tgt : Nat} (hi : ins y pc = some (.ifCond .gt off)) (ht : (pc : Int) + off = (tgt : Int)) (hx : SB x) {P N : Prop} (hP : 0 < x → G y tgt lv r μ Q = P) (hN : ¬ 0 < x → G y (pc + 3) lv r μ Q = N) : G y pc lv (vI x :: r) μ Q = (if 0 < x then P else N) := (g_if_gt hi ht).trans (if_eq' (by rw [iI_0, iI_lt (by decide) hx]) hP hN)
theorem j_if_le {off x : Int} {tgt : Nat} (hi : ins y pc = some (.ifCond .le off)) (ht : (pc : Int) + off = (tgt : Int)) (hx : SB x) {P N : Prop} (hP : x ≤ 0 → G y tgt lv r μ Q = P) (hN : ¬ x ≤ 0 → G y (pc + 3) lv r μ Q = N) : G y pc lv (vI x :: r) μ Q = (if x ≤ 0 then P else N) := (g_if_le hi ht).trans (if_eq' (by rw [iI_0, iI_le hx (by decide)]) hP hN)
theorem j_icmp_eq {off a b : Int} {tgt : Nat} (hi : ins y pc = some (.if_icmp .eq off)) (ht : (pc : Int) + off = (tgt : Int)) (ha : SB a) (hb : SB b) {P N : Prop} (hP : a = b → G y tgt lv r μ Q = P) (hN : ¬ a = b → G y (pc + 3) lv r μ Q = N) : G y pc lv (vI b :: vI a :: r) μ Q = (if a = b then P else N) := (g_icmp_eq hi ht).trans (if_eq' (iI_eq ha hb) hP hN)
theorem j_icmp_ne {off a b : Int} {tgt : Nat} (hi : ins y pc = some (.if_icmp .ne off)) (ht : (pc : Int) + off = (tgt : Int)) (ha : SB a) (hb : SB b) {P N : Prop} (hN : a = b → G y (pc + 3) lv r μ Q = P) (hP : ¬ a = b → G y tgt lv r μ Q = N) : G y pc lv (vI b :: vI a :: r) μ Q = (if a = b then P else N) := (g_icmp_ne hi ht).trans (if_eq' (iI_eq ha hb) hN hP)
theorem j_icmp_lt {off a b : Int} {tgt : Nat} (hi : ins y pc = some (.if_icmp .lt off)) (ht : (pc : Int) + off = (tgt : Int)) (ha : SB a) (hb : SB b) {P N : Prop} (hP : a < b → G y tgt lv r μ Q = P) (hN : ¬ a < b → G y (pc + 3) lv r μ Q = N) : G y pc lv (vI b :: vI a :: r) μ Q = (if a < b then P else N) := (g_icmp_lt hi ht).trans (if_eq' (iI_lt ha hb) hP hN)
theorem j_icmp_ge {off a b : Int} {tgt : Nat} (hi : ins y pc = some (.if_icmp .ge off)) (ht : (pc : Int) + off = (tgt : Int)) (ha : SB a) (hb : SB b) {P N : Prop} (hP : b ≤ a → G y tgt lv r μ Q = P) (hN : ¬ b ≤ a → G y (pc + 3) lv r μ Q = N) : G y pc lv (vI b :: vI a :: r) μ Q = (if b ≤ a then P else N) := (g_icmp_ge hi ht).trans (if_eq' (iI_le hb ha) hP hN)
theorem j_icmp_gt {off a b : Int} {tgt : Nat} (hi : ins y pc = some (.if_icmp .gt off)) (ht : (pc : Int) + off = (tgt : Int)) (ha : SB a) (hb : SB b) {P N : Prop} (hP : b < a → G y tgt lv r μ Q = P) (hN : ¬ b < a → G y (pc + 3) lv r μ Q = N) : G y pc lv (vI b :: vI a :: r) μ Q = (if b < a then P else N) := (g_icmp_gt hi ht).trans (if_eq' (iI_lt hb ha) hP hN)
theorem j_icmp_le {off a b : Int} {tgt : Nat} (hi : ins y pc = some (.if_icmp .le off)) (ht : (pc : Int) + off = (tgt : Int)) (ha : SB a) (hb : SB b) {P N : Prop} (hP : a ≤ b → G y tgt lv r μ Q = P) (hN : ¬ a ≤ b → G y (pc + 3) lv r μ Q = N) : G y pc lv (vI b :: vI a :: r) μ Q = (if a ≤ b then P else N) := (g_icmp_le hi ht).trans (if_eq' (iI_le ha hb) hP hN)
theorem j_getI {i k ci j n : Nat} {v : Int} {s0 : List Nat} (hi : ins y pc = some (.getfield i)) (hf : fld (mo y) i = some (ci, j)) (hs : shp[k]? = some (ci, n, s0)) (hc : ci < 11) (hj : s0[j]? = some 0) (hv : ρ k (j : Int) = v) : G y pc lv (.ref k :: r) (toM ρ τ) Q = G y (pc + 3) lv (vI v :: r) (toM ρ τ) Q := by subst hv; exact g_getI hi hf hs hc hj
theorem j_putI {i k ci j n : Nat} {x : Int} {s0 : List Nat} (hi : ins y pc = some (.putfield i)) (hf : fld (mo y) i = some (ci, j)) (hs : shp[k]? = some (ci, n, s0)) (hc : ci < 11) (hj : s0[j]? = some 0) : G y pc lv (vI x :: .ref k :: r) (toM ρ τ) Q = G y (pc + 3) lv r (toM (rup ρ k (j : Int) x) τ) Q := by rw [g_putI hi hf hs hc hj, toM_upN]
theorem j_getL {i k ci j n : Nat} {s0 : List Nat} (hi : ins y pc = some (.getfield i)) (hf : fld (mo y) i = some (ci, j)) (hs : shp[k]? = some (ci, n, s0)) (hc : ci < 11) (hj : s0[j]? = some 1) : G y pc lv (.ref k :: r) (toM ρ τ) Q = G y (pc + 3) lv (.long τ :: r) (toM ρ τ) Q := g_getL hi hf hs hc hj
theorem j_putL {i k ci j n : Nat} {x : Int64} {s0 : List Nat} (hi : ins y pc = some (.putfield i)) (hf : fld (mo y) i = some (ci, j)) (hs : shp[k]? = some (ci, n, s0)) (hc : ci < 11) (hj : s0[j]? = some 1) : G y pc lv (.long x :: .ref k :: r) (toM ρ τ) Q = G y (pc + 3) lv r (toM ρ x) Q := g_putL hi hf hs hc hj
theorem j_iaload {k n : Nat} {s0 : List Nat} {i v : Int} (hi : ins y pc = some .iaload) (hs : shp[k]? = some (100, n, s0)) (hb : SB i) {P : Prop} (hv : ρ k i = v) (hP : 0 ≤ i ∧ i < n → G y (pc + 1) lv (vI v :: r) (toM ρ τ) Q = P) : G y pc lv (vI i :: .ref k :: r) (toM ρ τ) Q = (if 0 ≤ i ∧ i < n then P else False) := by
  rw [g_iaload hi hs]
  by_cases h : 0 ≤ i ∧ i < n
  · rw [if_pos h, if_neg (fun z => (iI_idx hb).mp z h), ← hP h, iI_cl hb, ← hv]
    show G y (pc + 1) lv (.int (iI (ρ k (i.toNat : Int))) :: r) (toM ρ τ) Q = _
    rw [Int.toNat_of_nonneg h.1]
  · rw [if_neg h, if_pos ((iI_idx hb).mpr h)]
theorem j_iastore {k n : Nat} {s0 : List Nat} {i x : Int} (hi : ins y pc = some .iastore) (hs : shp[k]? = some (100, n, s0)) (hb : SB i) {P : Prop} (hP : 0 ≤ i ∧ i < n → G y (pc + 1) lv r (toM (rup ρ k i x) τ) Q = P) : G y pc lv (vI x :: vI i :: .ref k :: r) (toM ρ τ) Q = (if 0 ≤ i ∧ i < n then P else False) := by
  rw [g_iastore hi hs]
  by_cases h : 0 ≤ i ∧ i < n
  · rw [if_pos h, if_neg (fun z => (iI_idx hb).mp z h), ← hP h, iI_cl hb, toM_up _ _ _ h.1]
  · rw [if_neg h, if_pos ((iI_idx hb).mpr h)]
theorem j_baload {k n : Nat} {s0 : List Nat} {i v : Int} (hi : ins y pc = some .baload) (hs : shp[k]? = some (101, n, s0)) (hb : SB i) {P : Prop} (hv : ρ k i = v) (hP : 0 ≤ i ∧ i < n → G y (pc + 1) lv (vI v :: r) (toM ρ τ) Q = P) : G y pc lv (vI i :: .ref k :: r) (toM ρ τ) Q = (if 0 ≤ i ∧ i < n then P else False) := by
  rw [g_baload hi hs]
  by_cases h : 0 ≤ i ∧ i < n
  · rw [if_pos h, if_neg (fun z => (iI_idx hb).mp z h), ← hP h, iI_cl hb, ← hv]
    show G y (pc + 1) lv (.int (iI (ρ k (i.toNat : Int))) :: r) (toM ρ τ) Q = _
    rw [Int.toNat_of_nonneg h.1]
  · rw [if_neg h, if_pos ((iI_idx hb).mpr h)]
theorem j_bastore {k n : Nat} {s0 : List Nat} {i x : Int} (hi : ins y pc = some .bastore) (hs : shp[k]? = some (101, n, s0)) (hb : SB i) (hx : vp_nar .boolean (iI x) = iI x) {P : Prop} (hP : 0 ≤ i ∧ i < n → G y (pc + 1) lv r (toM (rup ρ k i x) τ) Q = P) : G y pc lv (vI x :: vI i :: .ref k :: r) (toM ρ τ) Q = (if 0 ≤ i ∧ i < n then P else False) := by
  rw [g_bastore hi hs, hx]
  by_cases h : 0 ≤ i ∧ i < n
  · rw [if_pos h, if_neg (fun z => (iI_idx hb).mp z h), ← hP h, iI_cl hb, toM_up _ _ _ h.1]
  · rw [if_neg h, if_pos ((iI_idx hb).mpr h)]
/-- a row of the grid -/
theorem j_aaload {i : Int} (hi : ins y pc = some .aaload) (hb : SB i) {P : Prop} (hP : 0 ≤ i ∧ i < 10 → G y (pc + 1) lv (.ref (17 + i.toNat) :: r) μ Q = P) : G y pc lv (vI i :: .ref 16 :: r) μ Q = (if 0 ≤ i ∧ i < 10 then P else False) := by
  rw [g_aaload hi]
  by_cases h : 0 ≤ i ∧ i < 10
  · rw [if_pos h, if_neg (fun z => (iI_idx (n := 10) hb).mp z h), ← hP h, iI_cl hb]
  · rw [if_neg h, if_pos ((iI_idx (n := 10) hb).mpr h)]
theorem tq_eq {a b : Int} (hb : 0 < b) (ha : SB a) (hb2 : SB b) : iI a / iI b = iI (a.tdiv b) ∧ iI a - iI a / iI b * iI b = iI (a.tmod b) := by
  have h1 : iI a / iI b = iI (a.tdiv b) := by
    apply Int32.toInt_inj.mp
    have h2 : (iI a / iI b).toInt = a.tdiv b := by
      rw [Int32.toInt_div_of_ne_right _ _ (by intro h; have := congrArg Int32.toInt h; rw [iI_toInt hb2] at this; rw [this] at hb; exact absurd hb (by decide)), iI_toInt ha, iI_toInt hb2]
    have h3 : SB (a.tdiv b) := by
      rw [← h2]; exact SB_of _
    rw [h2, iI_toInt h3]
  refine ⟨h1, ?_⟩
  rw [h1, iI_mul, iI_sub]
  congr 1
  rw [Int.tmod_def, Int.mul_comm]
theorem j_irem {a b : Int} (hi : ins y pc = some .irem) (hb : 0 < b) (ha : SB a) (hb2 : SB b) : G y pc lv (vI b :: vI a :: r) μ Q = G y (pc + 1) lv (vI (a.tmod b) :: r) μ Q := by
  rw [g_irem hi (by rw [iI_0, iI_eq hb2 (by decide)]; omega), (tq_eq hb ha hb2).2]
theorem j_idiv {a b : Int} (hi : ins y pc = some .idiv) (hb : 0 < b) (ha : SB a) (hb2 : SB b) : G y pc lv (vI b :: vI a :: r) μ Q = G y (pc + 1) lv (vI (a.tdiv b) :: r) μ Q := by
  rw [g_idiv hi (by rw [iI_0, iI_eq hb2 (by decide)]; omega), (tq_eq hb ha hb2).1]
theorem nar_01 {x : Int} (h : x = 0 ∨ x = 1) : narrow .boolean (vI x) = vI x := by rcases h with rfl | rfl <;> rfl
end JL
section JL2
variable {y pc pc' : Nat} {lv lv' : List (Option Value)} {st st' : List Value} {ρ : rm} {τ : Int64} {Q : Option Value → mm → Prop} {r : List Value} {μ : mm}
theorem vI_of (x : Int32) : vI x.toInt = .int x := congrArg Value.int (iI_of x)
theorem j_toI {w : Int32} : G y pc lv (.int w :: r) μ Q = G y pc lv (vI w.toInt :: r) μ Q := by rw [vI_of]
theorem j_iand {a b : Int} (hi : ins y pc = some .iand) : G y pc lv (vI b :: vI a :: r) μ Q = G y (pc + 1) lv (vI (iI a &&& iI b).toInt :: r) μ Q := by rw [g_iand hi, vI_of]
theorem j_ior {a b : Int} (hi : ins y pc = some .ior) : G y pc lv (vI b :: vI a :: r) μ Q = G y (pc + 1) lv (vI (iI a ||| iI b).toInt :: r) μ Q := by rw [g_ior hi, vI_of]
theorem j_ixor {a b : Int} (hi : ins y pc = some .ixor) : G y pc lv (vI b :: vI a :: r) μ Q = G y (pc + 1) lv (vI (iI a ^^^ iI b).toInt :: r) μ Q := by rw [g_ixor hi, vI_of]
theorem j_ishl {a b : Int} (hi : ins y pc = some .ishl) : G y pc lv (vI b :: vI a :: r) μ Q = G y (pc + 1) lv (vI (iI a <<< (iI b &&& 31)).toInt :: r) μ Q := by rw [g_ishl hi, vI_of]
theorem j_ishr {a b : Int} (hi : ins y pc = some .ishr) : G y pc lv (vI b :: vI a :: r) μ Q = G y (pc + 1) lv (vI (iI a >>> (iI b &&& 31)).toInt :: r) μ Q := by rw [g_ishr hi, vI_of]
theorem j_iushr {a b : Int} (hi : ins y pc = some .iushr) : G y pc lv (vI b :: vI a :: r) μ Q = G y (pc + 1) lv (vI ((iI a).toUInt32 >>> ((iI b).toUInt32 &&& Int32.toUInt32 31)).toInt32.toInt :: r) μ Q := by rw [g_iushr hi, vI_of]
theorem j_l2i {a : Int64} (hi : ins y pc = some .l2i) : G y pc lv (.long a :: r) μ Q = G y (pc + 1) lv (vI a.toInt32.toInt :: r) μ Q := by rw [g_l2i hi, vI_of]
theorem j_lcmp_ne {a b : Int64} {off : Int} {tgt : Nat} (hi : ins y pc = some .lcmp) (h2 : ins y (pc + 1) = some (.ifCond .ne off)) (ht : ((pc + 1 : Nat) : Int) + off = (tgt : Int)) {P N : Prop} (hN : a = b → G y (pc + 4) lv r μ Q = P) (hP : ¬ a = b → G y tgt lv r μ Q = N) : G y pc lv (.long b :: .long a :: r) μ Q = (if a = b then P else N) := (g_lcmp hi).trans ((g_if_ne h2 ht).trans (if_eq' (by
    unfold lg_cmp
    constructor
    · intro h
      by_cases h1 : a = b
      · exact h1
      · exfalso
        revert h
        simp only [h1]
        (repeat' split) <;> simp_all
    · intro h
      subst h
      simp) hN hP))
theorem j_lcmp_eq {a b : Int64} {off : Int} {tgt : Nat} (hi : ins y pc = some .lcmp) (h2 : ins y (pc + 1) = some (.ifCond .eq off)) (ht : ((pc + 1 : Nat) : Int) + off = (tgt : Int)) {P N : Prop} (hP : a = b → G y tgt lv r μ Q = P) (hN : ¬ a = b → G y (pc + 4) lv r μ Q = N) : G y pc lv (.long b :: .long a :: r) μ Q = (if a = b then P else N) := (g_lcmp hi).trans ((g_if_eq h2 ht).trans (if_eq' (by
    unfold lg_cmp
    constructor
    · intro h
      by_cases h1 : a = b
      · exact h1
      · exfalso
        revert h
        simp only [h1]
        (repeat' split) <;> simp_all
    · intro h
      subst h
      simp) hP hN))
theorem sw_case {x c : Int} {X A B : Prop} (h1 : x = c → X = A) (h2 : ¬ x = c → X = B) : X = (if x = c then A else B) := by
  by_cases h : x = c
  · rw [if_pos h]; exact h1 h
  · rw [if_neg h]; exact h2 h
end JL2
/-- all that the memory holds is small -/
def BM (ρ : rm) : Prop := ∀ (k : Nat) (j : Int), k < 68 → -2000000 ≤ ρ k j ∧ ρ k j ≤ 2000000
abbrev SM (z : Int) : Prop := -100000000 ≤ z ∧ z ≤ 100000000
