/-! roads: pure -/
def fwS (D : Int → Int → Int) (k : Int) : Int → Int → Int := fun a b => min (D a b) (D a k + D k b)
def fwA (D : Int → Int → Int) : Nat → Int → Int → Int
  | 0 => D
  | k + 1 => fwS (fwA D k) (k : Int)
def OKD (n : Int) (D : Int → Int → Int) : Prop := ∀ a b, (0 ≤ a ∧ a < n) → (0 ≤ b ∧ b < n) → (0 ≤ D a b ∧ D a b ≤ 1000000) ∧ D a b = D b a ∧ (a = b → D a b = 0)
def EqD (n : Int) (D E : Int → Int → Int) : Prop := ∀ a b, (0 ≤ a ∧ a < n) → (0 ≤ b ∧ b < n) → D a b = E a b
theorem OKD.cg {n : Int} {D E : Int → Int → Int} (h : OKD n D) (e : EqD n E D) : OKD n E := by
  intro a b ha hb
  rw [e a b ha hb, e b a hb ha]
  exact h a b ha hb
theorem fwS_ok {n k : Int} {D : Int → Int → Int} (h : OKD n D) (hk : 0 ≤ k ∧ k < n) : OKD n (fwS D k) := by
  intro a b ha hb
  have h1 := h a b ha hb
  have h2 := h a k ha hk
  have h3 := h k b hk hb
  have h4 := h b k hb hk
  have h5 := h k a hk ha
  have h6 := h b a hb ha
  unfold fwS
  refine ⟨by omega, by omega, fun e => ?_⟩
  have := h1.2.2 e
  omega
theorem fwA_ok {n : Int} {D : Int → Int → Int} (h : OKD n D) : ∀ (k : Nat), (k : Int) ≤ n → OKD n (fwA D k)
  | 0, _ => h
  | k + 1, hk => fwS_ok (fwA_ok h k (by omega)) (by omega)
theorem fwS_cg {n k : Int} {D E : Int → Int → Int} (e : EqD n D E) (hk : 0 ≤ k ∧ k < n) : EqD n (fwS D k) (fwS E k) := by
  intro a b ha hb
  unfold fwS
  rw [e a b ha hb, e a k ha hk, e k b hk hb]
def MixD (n : Int) (D : Int → Int → Int) (k i j : Int) (M : Int → Int → Int) : Prop := ∀ p q, (0 ≤ p ∧ p < n) → (0 ≤ q ∧ q < n) → M p q = if p < i ∨ (p = i ∧ q < j) then fwS D k p q else D p q
theorem mix_val {n k i j : Int} {D M : Int → Int → Int} (h : OKD n D) (hm : MixD n D k i j M) (hk : 0 ≤ k ∧ k < n) (hi : 0 ≤ i ∧ i < n) (hj : 0 ≤ j ∧ j < n) : M i j = D i j ∧ M i k = D i k ∧ M k j = D k j := by
  have z := (h k k hk hk).2.2 rfl
  have h2 := h i k hi hk
  have h3 := h k j hk hj
  refine ⟨?_, ?_, ?_⟩
  · rw [hm i j hi hj, if_neg (by omega)]
  · rw [hm i k hi hk]
    split
    · unfold fwS
      rw [z]
      omega
    · rfl
  · rw [hm k j hk hj]
    split
    · unfold fwS
      rw [z]
      omega
    · rfl
theorem mix_step {n k i j : Int} {D M M' : Int → Int → Int} (h : OKD n D) (hm : MixD n D k i j M) (hk : 0 ≤ k ∧ k < n) (hi : 0 ≤ i ∧ i < n) (hj : 0 ≤ j ∧ j < n) (hM : ∀ p q, (0 ≤ p ∧ p < n) → (0 ≤ q ∧ q < n) → M' p q = if p = i ∧ q = j then min (M i j) (M i k + M k j) else M p q) : MixD n D k i (j + 1) M' := by
  intro p q hp hq
  obtain ⟨e1, e2, e3⟩ := mix_val h hm hk hi hj
  rw [hM p q hp hq]
  by_cases c : p = i ∧ q = j
  · rw [if_pos c, if_pos (by omega), e1, e2, e3, c.1, c.2]
    rfl
  · rw [if_neg c, hm p q hp hq]
    by_cases c2 : p < i ∨ (p = i ∧ q < j)
    · rw [if_pos c2, if_pos (by omega)]
    · rw [if_neg c2, if_neg (by omega)]
theorem mix_row {n k i : Int} {D M : Int → Int → Int} (hm : MixD n D k i n M) : MixD n D k (i + 1) 0 M := by
  intro p q hp hq
  rw [hm p q hp hq]
  by_cases c2 : p < i ∨ (p = i ∧ q < n)
  · rw [if_pos c2, if_pos (by omega)]
  · rw [if_neg c2, if_neg (by omega)]
theorem mix_0 {n k : Int} {D M : Int → Int → Int} (hm : EqD n M D) : MixD n D k 0 0 M := by
  intro p q hp hq
  rw [hm p q hp hq, if_neg (by omega)]
theorem mix_n {n k : Int} {D M : Int → Int → Int} (hm : MixD n D k n 0 M) : EqD n M (fwS D k) := by
  intro p q hp hq
  rw [hm p q hp hq, if_pos (by omega)]
/-- a road -/
def lay (D : Int → Int → Int) (a b m : Int) : Int → Int → Int := fun p q => if (p = a ∧ q = b) ∨ (p = b ∧ q = a) then min m (D p q) else D p q
def layN (D : Int → Int → Int) (fr to_ ov : Int → Int) : Nat → Int → Int → Int
  | 0 => D
  | k + 1 => lay (layN D fr to_ ov k) (fr (k : Int)) (to_ (k : Int)) (ov (k : Int))
theorem lay_ok {n a b m : Int} {D : Int → Int → Int} (h : OKD n D) (ha : 0 ≤ a ∧ a < n) (hb : 0 ≤ b ∧ b < n) (hab : a ≠ b) (hm : 0 ≤ m) : OKD n (lay D a b m) := by
  intro p q hp hq
  have h1 := h p q hp hq
  unfold lay
  by_cases c : (p = a ∧ q = b) ∨ (p = b ∧ q = a)
  · rw [if_pos c, if_pos (by omega), h1.2.1]
    have h2 := h q p hq hp
    refine ⟨by omega, rfl, fun e => ?_⟩
    omega
  · rw [if_neg c, if_neg (by omega)]
    exact h1
theorem lay_cg {n a b m : Int} {D E : Int → Int → Int} (e : EqD n D E) : EqD n (lay D a b m) (lay E a b m) := by
  intro p q hp hq
  unfold lay
  rw [e p q hp hq]
theorem layN_ok {n : Int} {D : Int → Int → Int} {fr to_ ov : Int → Int} (h : OKD n D) : ∀ (k : Nat), (∀ q, 0 ≤ q → q < (k : Int) → (0 ≤ fr q ∧ fr q < n) ∧ (0 ≤ to_ q ∧ to_ q < n) ∧ fr q ≠ to_ q ∧ 0 ≤ ov q) → OKD n (layN D fr to_ ov k)
  | 0, _ => h
  | k + 1, hk => by
    have h1 := hk (k : Int) (by omega) (by omega)
    exact lay_ok (layN_ok h k (fun q q1 q2 => hk q q1 (by omega))) h1.1 h1.2.1 h1.2.2.1 h1.2.2.2
theorem layN_cg {n : Int} {D E : Int → Int → Int} {fr to_ ov fr' to' ov' : Int → Int} (e : EqD n D E) : ∀ (k : Nat), (∀ q, 0 ≤ q → q < (k : Int) → fr q = fr' q ∧ to_ q = to' q ∧ ov q = ov' q) → EqD n (layN D fr to_ ov k) (layN E fr' to' ov' k)
  | 0, _ => e
  | k + 1, hk => by
    have h1 := hk (k : Int) (by omega) (by omega)
    have h2 := layN_cg e k (fun q q1 q2 => hk q q1 (by omega))
    show EqD n (lay (layN D fr to_ ov k) (fr (k : Int)) (to_ (k : Int)) (ov (k : Int))) (lay (layN E fr' to' ov' k) (fr' (k : Int)) (to' (k : Int)) (ov' (k : Int)))
    rw [h1.1, h1.2.1, h1.2.2]
    exact lay_cg h2
/-- the reference's far is nearer -/
def CapD (n : Int) (D M : Int → Int → Int) : Prop := ∀ a b, (0 ≤ a ∧ a < n) → (0 ≤ b ∧ b < n) → M a b = min (D a b) 100000
theorem cap_lay {n a b m : Int} {D M : Int → Int → Int} (h : CapD n D M) (hm : m ≤ 99) : CapD n (lay D a b m) (lay M a b m) := by
  intro p q hp hq
  have h1 := h p q hp hq
  unfold lay
  by_cases c : (p = a ∧ q = b) ∨ (p = b ∧ q = a)
  · rw [if_pos c, if_pos c]
    omega
  · rw [if_neg c, if_neg c]
    exact h1
theorem cap_layN {n : Int} {D M : Int → Int → Int} {fr to_ ov : Int → Int} (h : CapD n D M) : ∀ (k : Nat), (∀ q, 0 ≤ q → q < (k : Int) → ov q ≤ 99) → CapD n (layN D fr to_ ov k) (layN M fr to_ ov k)
  | 0, _ => h
  | k + 1, hk => cap_lay (cap_layN h k (fun q q1 q2 => hk q q1 (by omega))) (hk (k : Int) (by omega) (by omega))
theorem cap_fw {n : Int} {D M : Int → Int → Int} (h : CapD n D M) (ho : OKD n D) : ∀ (k : Nat), (k : Int) ≤ n → CapD n (fwA D k) (fwA M k)
  | 0, _ => h
  | k + 1, hk => by
    intro a b ha hb
    have ih := cap_fw h ho k (by omega)
    have o := fwA_ok ho k (by omega)
    have h1 := ih a b ha hb
    have h2 := ih a (k : Int) ha (by omega)
    have h3 := ih (k : Int) b (by omega) hb
    have o2 := o a (k : Int) ha (by omega)
    have o3 := o (k : Int) b (by omega) hb
    show min (fwA M k a b) (fwA M k a k + fwA M k k b) = min (min (fwA D k a b) (fwA D k a k + fwA D k k b)) 100000
    omega
/-- along the street all is near -/
def NrD (n : Int) (k : Int) (D : Int → Int → Int) : Prop := (∀ a, 0 ≤ a → a + 1 < n → D a (a + 1) ≤ 99) ∧ ∀ a b, 0 ≤ a → a < b → b < n → b ≤ k → D a b ≤ 99 * (b - a)
theorem nr_lay {n a b m : Int} {D : Int → Int → Int} (h : ∀ a, 0 ≤ a → a + 1 < n → D a (a + 1) ≤ 99) : ∀ p, 0 ≤ p → p + 1 < n → lay D a b m p (p + 1) ≤ 99 := by
  intro p h1 h2
  have := h p h1 h2
  unfold lay
  split <;> omega
theorem nr_layN {n : Int} {D : Int → Int → Int} {fr to_ ov : Int → Int} (h : ∀ a, 0 ≤ a → a + 1 < n → D a (a + 1) ≤ 99) : ∀ (k : Nat), ∀ p, 0 ≤ p → p + 1 < n → layN D fr to_ ov k p (p + 1) ≤ 99
  | 0 => h
  | k + 1 => nr_lay (nr_layN h k)
theorem nr_fw {n : Int} {D : Int → Int → Int} (h : ∀ a, 0 ≤ a → a + 1 < n → D a (a + 1) ≤ 99) : ∀ (k : Nat), (k : Int) ≤ n → NrD n k (fwA D k)
  | 0, _ => ⟨h, fun a b h1 h2 h3 h4 => by omega⟩
  | k + 1, hk => by
    obtain ⟨i1, i2⟩ := nr_fw h k (by omega)
    refine ⟨fun a h1 h2 => ?_, fun a b h1 h2 h3 h4 => ?_⟩
    · have := i1 a h1 h2
      show min (fwA D k a (a + 1)) _ ≤ 99
      omega
    · show min (fwA D k a b) (fwA D k a k + fwA D k k b) ≤ 99 * (b - a)
      by_cases c : b ≤ (k : Int)
      · have := i2 a b h1 h2 h3 c
        omega
      · have e : b = (k : Int) + 1 := by omega
        subst e
        have q1 := i1 (k : Int) (by omega) h3
        by_cases c2 : a = (k : Int)
        · rw [c2]
          omega
        · have := i2 a (k : Int) h1 (by omega) (by omega) (by omega)
          omega
theorem fw_891 {n : Int} {D : Int → Int → Int} (hn : 0 ≤ n ∧ n ≤ 10) (ho : OKD n D) (h : ∀ a, 0 ≤ a → a + 1 < n → D a (a + 1) ≤ 99) : ∀ a b, (0 ≤ a ∧ a < n) → (0 ≤ b ∧ b < n) → fwA D n.toNat a b ≤ 891 := by
  intro a b ha hb
  have o := fwA_ok ho n.toNat (by omega)
  obtain ⟨-, i2⟩ := nr_fw h n.toNat (by omega)
  have o1 := o a b ha hb
  by_cases c : a < b
  · have := i2 a b ha.1 c hb.2 (by omega)
    omega
  · by_cases c2 : a = b
    · have := o1.2.2 c2
      omega
    · have := i2 b a hb.1 (by omega) ha.2 (by omega)
      omega
/-- the street's own roads -/
def rdD (w : Int → Int) (far : Int) : Int → Int → Int := fun p q => if p = q then 0 else if q = p + 1 then w p else if p = q + 1 then w q else far
theorem rdD_ok {n : Int} {w : Int → Int} {far : Int} (hw : ∀ h, 0 ≤ h → h < n → 0 ≤ w h ∧ w h ≤ 99) (hf : 0 ≤ far ∧ far ≤ 1000000) : OKD n (rdD w far) := by
  intro p q hp hq
  have h1 := hw p hp.1 hp.2
  have h2 := hw q hq.1 hq.2
  unfold rdD
  refine ⟨?_, ?_, fun e => if_pos e⟩
  · (repeat' split) <;> omega
  · (repeat' split) <;> omega
theorem rdD_cap {n : Int} {w w' : Int → Int} (hw : ∀ h, 0 ≤ h → h < n → 0 ≤ w h ∧ w h ≤ 99) (e : ∀ h, 0 ≤ h → h < n → w h = w' h) : CapD n (rdD w 1000000) (rdD w' 100000) := by
  intro p q hp hq
  have h1 := hw p hp.1 hp.2
  have h2 := hw q hq.1 hq.2
  have e1 := e p hp.1 hp.2
  have e2 := e q hq.1 hq.2
  unfold rdD
  (repeat' split) <;> omega
