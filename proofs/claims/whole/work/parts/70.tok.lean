/-! tokens: what they are, the class, the reference -/
abbrev q_let (c : Int) : Prop := 97 ≤ c ∧ c ≤ 122
abbrev q_dig (c : Int) : Prop := 48 ≤ c ∧ c ≤ 57
abbrev q_bla (c : Int) : Prop := c = 32
def rn (P : Int → Prop) [DecidablePred P] (T : Int → Int) : Nat → Int → Int
  | 0, p => p
  | d + 1, p => if P (T p) then rn P T d (p + 1) else p
def ru (P : Int → Prop) [DecidablePred P] (T : Int → Int) (n p : Int) : Int := rn P T (n - p).toNat p
section RU
theorem ru_stop {P : Int → Prop} [DecidablePred P] {T : Int → Int} {n p : Int} (h : n ≤ p) : ru P T n p = p := by
  unfold ru
  rw [show (n - p).toNat = 0 by omega]
  rfl
theorem ru_no {P : Int → Prop} [DecidablePred P] {T : Int → Int} {n p : Int} (h : ¬ P (T p)) : ru P T n p = p := by
  unfold ru
  cases (n - p).toNat with
  | zero => rfl
  | succ d => show (if P (T p) then _ else p) = p; rw [if_neg h]
theorem ru_go {P : Int → Prop} [DecidablePred P] {T : Int → Int} {n p : Int} (h : p < n) (h2 : P (T p)) : ru P T n p = ru P T n (p + 1) := by
  unfold ru
  rw [show (n - p).toNat = (n - (p + 1)).toNat + 1 by omega]
  show (if P (T p) then _ else p) = _
  rw [if_pos h2]
theorem rn_bd {P : Int → Prop} [DecidablePred P] {T : Int → Int} : ∀ (d : Nat) (p : Int), p ≤ rn P T d p ∧ rn P T d p ≤ p + d ∧ ∀ q, p ≤ q → q < rn P T d p → P (T q)
  | 0, p => ⟨Int.le_refl _, by show p ≤ p + ((0 : Nat) : Int); omega, fun q h1 h2 => by have h3 : q < p := h2; omega⟩
  | d + 1, p => by
    show p ≤ (if P (T p) then rn P T d (p + 1) else p) ∧ (if P (T p) then rn P T d (p + 1) else p) ≤ p + ((d + 1 : Nat) : Int) ∧ ∀ q, p ≤ q → q < (if P (T p) then rn P T d (p + 1) else p) → P (T q)
    obtain ⟨h1, h2, h3⟩ := rn_bd (P := P) (T := T) d (p + 1)
    split
    · rename_i c
      refine ⟨by omega, by omega, fun q q1 q2 => ?_⟩
      by_cases e : q = p
      · rw [e]; exact c
      · exact h3 q (by omega) q2
    · exact ⟨by omega, by omega, fun q q1 q2 => by omega⟩
theorem ru_bd {P : Int → Prop} [DecidablePred P] {T : Int → Int} {n p : Int} (h : p ≤ n) : p ≤ ru P T n p ∧ ru P T n p ≤ n ∧ ∀ q, p ≤ q → q < ru P T n p → P (T q) := by
  have := rn_bd (P := P) (T := T) (n - p).toNat p
  unfold ru
  exact ⟨this.1, by omega, this.2.2⟩
end RU
def cv (T : Int → Int) (s : Int) : Nat → Int
  | 0 => 0
  | k + 1 => if k < 4 then cv T s k * 10 + T (s + k) - 48 else -1
def nm (T : Int → Int) (s : Int) : Nat → Int
  | 0 => 0
  | k + 1 => if k < 4 then 10 * nm T s k + T (s + k) - 48 else nm T s k
theorem nm_cv (T : Int → Int) (s : Int) : ∀ k : Nat, k ≤ 4 → nm T s k = cv T s k
  | 0, _ => rfl
  | k + 1, h => by
    show (if k < 4 then 10 * nm T s k + T (s + k) - 48 else nm T s k) = (if k < 4 then cv T s k * 10 + T (s + k) - 48 else -1)
    rw [if_pos (by omega), if_pos (by omega), nm_cv T s k (by omega)]
    omega
theorem cv_bd {T : Int → Int} {s : Int} : ∀ k : Nat, (∀ q : Int, 0 ≤ q → q < k → q_dig (T (s + q))) → (k = 0 → cv T s k = 0) ∧ (k = 1 → 0 ≤ cv T s k ∧ cv T s k ≤ 9) ∧ (k = 2 → 0 ≤ cv T s k ∧ cv T s k ≤ 99) ∧ (k = 3 → 0 ≤ cv T s k ∧ cv T s k ≤ 999) ∧ (k = 4 → 0 ≤ cv T s k ∧ cv T s k ≤ 9999) ∧ (4 < k → cv T s k = -1)
  | 0, _ => by
    have : cv T s 0 = 0 := rfl
    omega
  | k + 1, h => by
    have ih := cv_bd k (fun q q1 q2 => h q q1 (by omega))
    have h1 := h (k : Int) (by omega) (by omega)
    have e : cv T s (k + 1) = if k < 4 then cv T s k * 10 + T (s + k) - 48 else -1 := rfl
    rw [e]
    split <;> omega
theorem cv_rg {T : Int → Int} {s : Int} (k : Nat) (h : ∀ q : Int, 0 ≤ q → q < k → q_dig (T (s + q))) : -1 ≤ cv T s k ∧ cv T s k ≤ 9999 := by
  have := cv_bd k h
  omega
theorem nm_rg {T : Int → Int} {s : Int} : ∀ k : Nat, (∀ q : Int, 0 ≤ q → q < k → q_dig (T (s + q))) → 0 ≤ nm T s k ∧ nm T s k ≤ 9999
  | 0, _ => by
    have : nm T s 0 = 0 := rfl
    omega
  | k + 1, h => by
    by_cases c : k + 1 ≤ 4
    · rw [nm_cv T s _ c]
      have := cv_bd (k + 1) h
      omega
    · show 0 ≤ (if k < 4 then 10 * nm T s k + T (s + k) - 48 else nm T s k) ∧ (if k < 4 then 10 * nm T s k + T (s + k) - 48 else nm T s k) ≤ 9999
      rw [if_neg (by omega)]
      exact nm_rg k (fun q q1 q2 => h q q1 (by omega))
/-- where a token begins, where it ends, its kind, its value -/
def tkS (T : Int → Int) (n p : Int) : Int := ru q_bla T n p
def tkE (T : Int → Int) (n s : Int) : Int := if n ≤ s then s else if q_let (T s) then ru q_let T n s else if q_dig (T s) then ru q_dig T n s else s + 1
def tkK (T : Int → Int) (n s : Int) : Int := if n ≤ s then 0 else if q_let (T s) then 1 else if q_dig (T s) then 2 else if T s = 59 then 3 else 4
def tkV (T : Int → Int) (n s : Int) : Int := cv T s (tkE T n s - s).toNat
theorem tkS_bd {T : Int → Int} {n p : Int} (h : p ≤ n) : p ≤ tkS T n p ∧ tkS T n p ≤ n := ⟨(ru_bd h).1, (ru_bd h).2.1⟩
theorem tkE_bd {T : Int → Int} {n s : Int} (h : s ≤ n) : s ≤ tkE T n s ∧ tkE T n s ≤ n := by
  have h1 := ru_bd (P := q_let) (T := T) h
  have h2 := ru_bd (P := q_dig) (T := T) h
  unfold tkE
  split
  · omega
  · split
    · omega
    · split <;> omega
theorem tkK_bd (T : Int → Int) (n s : Int) : 0 ≤ tkK T n s ∧ tkK T n s ≤ 4 := by
  unfold tkK
  (repeat' split) <;> omega
theorem tkV_rg {T : Int → Int} {n s : Int} (h : s ≤ n) (hk : tkK T n s = 2) : -1 ≤ tkV T n s ∧ tkV T n s ≤ 9999 ∧ (4 < tkE T n s - s → tkV T n s = -1) ∧ (tkE T n s - s ≤ 4 → 0 ≤ tkV T n s) := by
  have h2 := ru_bd (P := q_dig) (T := T) h
  have hE : tkE T n s = ru q_dig T n s := by
    unfold tkK at hk
    unfold tkE
    split at hk
    · omega
    · rename_i c
      rw [if_neg c]
      split at hk
      · omega
      · rename_i c1
        rw [if_neg c1]
        split at hk
        · rename_i c2
          rw [if_pos c2]
        · split at hk <;> omega
  have h3 := cv_bd (T := T) (s := s) (tkE T n s - s).toNat (fun q q1 q2 => h2.2.2 (s + q) (by omega) (by omega))
  unfold tkV
  omega
/-! the class -/
def K5 (ρ ρ' : rm) : Prop := ∀ k j, ¬ (k = 5 ∧ 4 ≤ j ∧ j ≤ 7) → ρ' k j = ρ k j
theorem K5.refl (ρ : rm) : K5 ρ ρ := fun _ _ _ => rfl
theorem K5.trans {a b c : rm} (h1 : K5 a b) (h2 : K5 b c) : K5 a c := fun k j h => (h2 k j h).trans (h1 k j h)
theorem K5.up {ρ ρ' : rm} (h : K5 ρ ρ') {i : Int} (x : Int) (hi : 4 ≤ i ∧ i ≤ 7) : K5 ρ (rup ρ' 5 i x) := fun a j ha => by
  rw [← h a j ha]
  unfold rup
  rw [if_neg (fun z => ha ⟨z.1, by omega, by omega⟩)]
theorem K5.fn {ρ ρ' : rm} (h : K5 ρ ρ') {k : Nat} (hk : k ≠ 5) : ρ' k = ρ k := funext fun j => h k j (fun z => hk z.1)
theorem rup5 {ρ : rm} {i j x : Int} (h : j ≠ i) : rup ρ 5 i x 5 j = ρ 5 j := rup_sl h
section CT
variable {τ : Int64} {Q : Option Value → mm → Prop}
theorem c_let {ρ : rm} (hB : BM ρ) {a : Int} (ha : SM a) : G 54 0 [some (vI a)] [] (toM ρ τ) Q = Q (some (vI (tv (q_let a)))) (toM ρ τ) := by
  rw [b54_0 ρ τ a hB ha]
  (repeat' split) <;> first | rw [tv_t (by omega)] | rw [tv_f (by omega)]
theorem c_dig {ρ : rm} (hB : BM ρ) {a : Int} (ha : SM a) : G 55 0 [some (vI a)] [] (toM ρ τ) Q = Q (some (vI (tv (q_dig a)))) (toM ρ τ) := by
  rw [b55_0 ρ τ a hB ha]
  (repeat' split) <;> first | rw [tv_t (by omega)] | rw [tv_f (by omega)]
theorem c_letters : ∀ (d : Nat) (ρ : rm), TI ρ → (0 ≤ ρ 5 4 ∧ ρ 5 4 ≤ ρ 4 1) → (ρ 4 1 - ρ 5 4).toNat = d → (∀ ρ', TI ρ' → K5 ρ ρ' → ρ' 5 4 = ru q_let (ρ 37) (ρ 4 1) (ρ 5 4) → ρ' 5 5 = ρ 5 5 → ρ' 5 6 = ρ 5 6 → Q none (toM ρ' τ)) → G 52 0 [some (.ref 5)] [] (toM ρ τ) Q := by
  intro d
  induction d with
  | zero =>
    intro ρ hT hp hd H
    rw [b52_0 ρ τ hT.1, if_pos (by omega)]
    exact H ρ hT (K5.refl ρ) (ru_stop (by omega)).symm rfl rfl
  | succ d ih =>
    intro ρ hT hp hd H
    have hn : 0 ≤ ρ 4 1 ∧ ρ 4 1 ≤ 200 := hT.2 4 1
    have hb : 0 ≤ ρ 37 (ρ 5 4) ∧ ρ 37 (ρ 5 4) ≤ 255 := hT.2 37 _
    rw [b52_0 ρ τ hT.1, if_neg (by omega), if_pos (by omega), c_let hT.1 ⟨by omega, by omega⟩, b52_29 ρ τ [] _ hT.1 (tv_sm _)]
    by_cases c : q_let (ρ 37 (ρ 5 4))
    · rw [if_neg (by rw [tv_0]; exact fun z => z c)]
      have e1 : rup ρ 5 4 (ρ 5 4 + 1) 5 4 = ρ 5 4 + 1 := rup_same _ _ _ _
      have e2 : rup ρ 5 4 (ρ 5 4 + 1) 4 1 = ρ 4 1 := rup_ne _ _ _ _ (by decide)
      have e3 : rup ρ 5 4 (ρ 5 4 + 1) 37 = ρ 37 := rup_fn (by decide)
      refine ih (rup ρ 5 4 (ρ 5 4 + 1)) (TI_up hT 5 4 (x := ρ 5 4 + 1) (show 0 ≤ ρ 5 4 + 1 ∧ ρ 5 4 + 1 ≤ 200 by omega) (by omega)) (by rw [e1, e2]; omega) (by rw [e1, e2]; omega) (fun ρ' t1 t2 t3 t4 t5 => H ρ' t1 (((K5.refl ρ).up _ (by omega)).trans t2) ?_ ?_ ?_)
      · rw [t3, e1, e2, e3]
        exact (ru_go (by omega) c).symm
      · rw [t4]; exact rup5 (by decide)
      · rw [t5]; exact rup5 (by decide)
    · rw [if_pos (by rw [tv_0]; exact c)]
      exact H ρ hT (K5.refl ρ) (ru_no c).symm rfl rfl
theorem c_digits : ∀ (d : Nat) (ρ : rm) (t : List (Option Value)), TI ρ → (0 ≤ ρ 5 6 ∧ ρ 5 6 ≤ ρ 5 4 ∧ ρ 5 4 ≤ ρ 4 1) → (ρ 4 1 - ρ 5 4).toNat = d → (∀ q, ρ 5 6 ≤ q → q < ρ 5 4 → q_dig (ρ 37 q)) → ρ 5 7 = cv (ρ 37) (ρ 5 6) (ρ 5 4 - ρ 5 6).toNat → (∀ ρ', TI ρ' → K5 ρ ρ' → ρ' 5 4 = ru q_dig (ρ 37) (ρ 4 1) (ρ 5 4) → ρ' 5 5 = ρ 5 5 → ρ' 5 6 = ρ 5 6 → ρ' 5 7 = cv (ρ 37) (ρ 5 6) (ρ' 5 4 - ρ 5 6).toNat → Q none (toM ρ' τ)) → G 53 5 (some (.ref 5) :: t) [] (toM ρ τ) Q := by
  intro d
  induction d with
  | zero =>
    intro ρ t hT hp hd hq hv H
    rw [b53_5 ρ τ t hT.1, if_pos (by omega)]
    exact H ρ hT (K5.refl ρ) (ru_stop (by omega)).symm rfl rfl hv
  | succ d ih =>
    intro ρ t hT hp hd hq hv H
    have hn : 0 ≤ ρ 4 1 ∧ ρ 4 1 ≤ 200 := hT.2 4 1
    have hb : 0 ≤ ρ 37 (ρ 5 4) ∧ ρ 37 (ρ 5 4) ≤ 255 := hT.2 37 _
    rw [b53_5 ρ τ t hT.1, if_neg (by omega), if_pos (by omega), c_dig hT.1 ⟨by omega, by omega⟩, b53_34 ρ τ t _ hT.1 (tv_sm _)]
    by_cases c : q_dig (ρ 37 (ρ 5 4))
    · rw [if_neg (by rw [tv_0]; exact fun z => z c)]
      have e0 : (ρ 5 4 + 1 - ρ 5 6).toNat = (ρ 5 4 - ρ 5 6).toNat + 1 := by omega
      have hq2 : ∀ q, ρ 5 6 ≤ q → q < ρ 5 4 + 1 → q_dig (ρ 37 q) := fun q q1 q2 => by
        by_cases e : q = ρ 5 4
        · rw [e]; exact c
        · exact hq q q1 (by omega)
      have rg := cv_rg (T := ρ 37) (s := ρ 5 6) (ρ 5 4 + 1 - ρ 5 6).toNat (fun q q1 q2 => hq2 _ (by omega) (by omega))
      have go : ∀ (v : Int) (t : List (Option Value)), v = cv (ρ 37) (ρ 5 6) (ρ 5 4 + 1 - ρ 5 6).toNat → G 53 5 (some (.ref 5) :: t) [] (toM (rup (rup ρ 5 7 v) 5 4 (ρ 5 4 + 1)) τ) Q := fun v t ev => by
        have e1 : rup (rup ρ 5 7 v) 5 4 (ρ 5 4 + 1) 5 4 = ρ 5 4 + 1 := rup_same _ _ _ _
        have e2 : rup (rup ρ 5 7 v) 5 4 (ρ 5 4 + 1) 4 1 = ρ 4 1 := by rw [rup_ne _ _ _ _ (by decide), rup_ne _ _ _ _ (by decide)]
        have e3 : rup (rup ρ 5 7 v) 5 4 (ρ 5 4 + 1) 37 = ρ 37 := by rw [rup_fn (by decide), rup_fn (by decide)]
        have e4 : rup (rup ρ 5 7 v) 5 4 (ρ 5 4 + 1) 5 6 = ρ 5 6 := by rw [rup5 (by decide), rup5 (by decide)]
        have e5 : rup (rup ρ 5 7 v) 5 4 (ρ 5 4 + 1) 5 7 = v := by rw [rup5 (by decide)]; exact rup_same _ _ _ _
        have e6 : rup (rup ρ 5 7 v) 5 4 (ρ 5 4 + 1) 5 5 = ρ 5 5 := by rw [rup5 (by decide), rup5 (by decide)]
        refine ih _ t (TI_up (TI_up hT 5 7 (x := v) (show -1 ≤ v ∧ v ≤ 9999 by omega) (by omega)) 5 4 (x := ρ 5 4 + 1) (show 0 ≤ ρ 5 4 + 1 ∧ ρ 5 4 + 1 ≤ 200 by omega) (by omega)) (by rw [e1, e2, e4]; omega) (by rw [e1, e2]; omega) (by rw [e1, e3, e4]; exact hq2) (by rw [e1, e3, e4, e5]; exact ev) (fun ρ' t1 t2 t3 t4 t5 t6 => H ρ' t1 ((((K5.refl ρ).up _ (by omega)).up _ (by omega)).trans t2) ?_ ?_ ?_ ?_)
        · rw [t3, e1, e2, e3]
          exact (ru_go (by omega) c).symm
        · rw [t4, e6]
        · rw [t5, e4]
        · rw [t6, e3, e4]
      have ev : cv (ρ 37) (ρ 5 6) (ρ 5 4 + 1 - ρ 5 6).toNat = if (ρ 5 4 - ρ 5 6).toNat < 4 then cv (ρ 37) (ρ 5 6) (ρ 5 4 - ρ 5 6).toNat * 10 + ρ 37 (ρ 5 6 + ((ρ 5 4 - ρ 5 6).toNat : Int)) - 48 else -1 := by rw [e0]; rfl
      rw [show ρ 5 6 + ((ρ 5 4 - ρ 5 6).toNat : Int) = ρ 5 4 by omega, ← hv] at ev
      split
      · rename_i c2
        rw [if_neg (by omega)] at ev
        exact go _ _ ev.symm
      · rename_i c2
        rw [if_pos (by omega)] at ev
        rw [if_pos (by omega)]
        exact go _ _ ev.symm
    · rw [if_pos (by rw [tv_0]; exact c)]
      exact H ρ hT (K5.refl ρ) (ru_no c).symm rfl rfl hv
/-- behind the blanks -/
theorem c_tok1 {ρ : rm} (hT : TI ρ) (hp : 0 ≤ ρ 5 4 ∧ ρ 5 4 < ρ 4 1) (H : ∀ ρ', TI ρ' → K5 ρ ρ' → ρ' 5 6 = ρ 5 4 → ρ' 5 5 = tkK (ρ 37) (ρ 4 1) (ρ 5 4) → ρ' 5 4 = tkE (ρ 37) (ρ 4 1) (ρ 5 4) → (tkK (ρ 37) (ρ 4 1) (ρ 5 4) = 2 → ρ' 5 7 = tkV (ρ 37) (ρ 4 1) (ρ 5 4)) → Q none (toM ρ' τ)) : G 54 0 [some (vI (ρ 37 (ρ 5 4)))] [] (toM (rup ρ 5 6 (ρ 5 4)) τ) (fun v μ2 => G 51 89 (some (.ref 5) :: []) (v.toList ++ []) μ2 Q) := by
  have hn : 0 ≤ ρ 4 1 ∧ ρ 4 1 ≤ 200 := hT.2 4 1
  have hb : 0 ≤ ρ 37 (ρ 5 4) ∧ ρ 37 (ρ 5 4) ≤ 255 := hT.2 37 _
  have hT1 : TI (rup ρ 5 6 (ρ 5 4)) := TI_up hT 5 6 (x := ρ 5 4) (show 0 ≤ ρ 5 4 ∧ ρ 5 4 ≤ 200 by omega) (by omega)
  have k1 : K5 ρ (rup ρ 5 6 (ρ 5 4)) := (K5.refl ρ).up _ (by omega)
  have f1 : rup ρ 5 6 (ρ 5 4) 5 4 = ρ 5 4 := rup5 (by decide)
  have f2 : rup ρ 5 6 (ρ 5 4) 4 1 = ρ 4 1 := rup_ne _ _ _ _ (by decide)
  have f3 : rup ρ 5 6 (ρ 5 4) 37 = ρ 37 := rup_fn (by decide)
  have f4 : rup ρ 5 6 (ρ 5 4) 5 6 = ρ 5 4 := rup_same _ _ _ _
  generalize rup ρ 5 6 (ρ 5 4) = ρ1 at hT1 k1 f1 f2 f3 f4 ⊢
  rw [c_let hT1.1 ⟨by omega, by omega⟩, b51_89 ρ1 τ [] _ hT1.1 (tv_sm _)]
  by_cases c : q_let (ρ 37 (ρ 5 4))
  · rw [if_neg (by rw [tv_0]; exact fun z => z c)]
    have hK : tkK (ρ 37) (ρ 4 1) (ρ 5 4) = 1 := by unfold tkK; rw [if_neg (by omega), if_pos c]
    have hE : tkE (ρ 37) (ρ 4 1) (ρ 5 4) = ru q_let (ρ 37) (ρ 4 1) (ρ 5 4) := by unfold tkE; rw [if_neg (by omega), if_pos c]
    have g1 : rup ρ1 5 5 1 5 4 = ρ 5 4 := by rw [rup5 (by decide), f1]
    have g2 : rup ρ1 5 5 1 4 1 = ρ 4 1 := by rw [rup_ne _ _ _ _ (by decide), f2]
    have g3 : rup ρ1 5 5 1 37 = ρ 37 := by rw [rup_fn (by decide), f3]
    have g4 : rup ρ1 5 5 1 5 6 = ρ 5 4 := by rw [rup5 (by decide), f4]
    refine c_letters _ _ (TI_up hT1 5 5 (x := 1) (show (0 : Int) ≤ 1 ∧ (1 : Int) ≤ 4 by omega) (by omega)) (by rw [g1, g2]; omega) rfl (fun ρ' t1 t2 t3 t4 t5 => ?_)
    rw [g1, g2, g3] at t3
    show G 51 101 (some (.ref 5) :: []) ((none : Option Value).toList ++ []) (toM ρ' τ) Q
    rw [b51_101 ρ' τ [] t1.1]
    exact H ρ' t1 ((k1.up _ (by omega)).trans t2) (by rw [t5, g4]) (by rw [t4, hK]; exact rup_same _ _ _ _) (by rw [t3, hE]) (fun z => by omega)
  · rw [if_pos (by rw [tv_0]; exact c), f1, if_pos (by omega), f3, c_dig hT1.1 ⟨by omega, by omega⟩, b51_119 ρ1 τ [] _ hT1.1 (tv_sm _), f1, f3]
    by_cases c2 : q_dig (ρ 37 (ρ 5 4))
    · rw [if_neg (by rw [tv_0]; exact fun z => z c2)]
      have hK : tkK (ρ 37) (ρ 4 1) (ρ 5 4) = 2 := by unfold tkK; rw [if_neg (by omega), if_neg c, if_pos c2]
      have hE : tkE (ρ 37) (ρ 4 1) (ρ 5 4) = ru q_dig (ρ 37) (ρ 4 1) (ρ 5 4) := by unfold tkE; rw [if_neg (by omega), if_neg c, if_pos c2]
      have hT2 := TI_up hT1 5 5 (x := 2) (show (0 : Int) ≤ 2 ∧ (2 : Int) ≤ 4 by omega) (by omega)
      have k2 := k1.up (i := 5) 2 (by omega)
      have g0 : rup ρ1 5 5 2 5 5 = 2 := rup_same _ _ _ _
      have g1 : rup ρ1 5 5 2 5 4 = ρ 5 4 := by rw [rup5 (by decide), f1]
      have g2 : rup ρ1 5 5 2 4 1 = ρ 4 1 := by rw [rup_ne _ _ _ _ (by decide), f2]
      have g3 : rup ρ1 5 5 2 37 = ρ 37 := by rw [rup_fn (by decide), f3]
      have g4 : rup ρ1 5 5 2 5 6 = ρ 5 4 := by rw [rup5 (by decide), f4]
      generalize rup ρ1 5 5 2 = ρ2 at hT2 k2 g0 g1 g2 g3 g4 ⊢
      rw [b53_0 ρ2 τ hT2.1]
      have h0 : rup ρ2 5 7 0 5 5 = 2 := by rw [rup5 (by decide), g0]
      have h1 : rup ρ2 5 7 0 5 4 = ρ 5 4 := by rw [rup5 (by decide), g1]
      have h2 : rup ρ2 5 7 0 4 1 = ρ 4 1 := by rw [rup_ne _ _ _ _ (by decide), g2]
      have h3 : rup ρ2 5 7 0 37 = ρ 37 := by rw [rup_fn (by decide), g3]
      have h4 : rup ρ2 5 7 0 5 6 = ρ 5 4 := by rw [rup5 (by decide), g4]
      refine c_digits _ _ [] (TI_up hT2 5 7 (x := 0) (show (-1 : Int) ≤ 0 ∧ (0 : Int) ≤ 9999 by omega) (by omega)) (by rw [h1, h2, h4]; omega) rfl (by rw [h1, h4]; intro q q1 q2; omega) ?_ (fun ρ' t1 t2 t3 t4 t5 t6 => ?_)
      · rw [h1, h4, show (ρ 5 4 - ρ 5 4).toNat = 0 by omega]
        exact rup_same _ _ _ _
      · rw [h1, h2, h3] at t3
        rw [h3, h4] at t6
        show G 51 131 (some (.ref 5) :: []) ((none : Option Value).toList ++ []) (toM ρ' τ) Q
        rw [b51_131 ρ' τ [] t1.1]
        refine H ρ' t1 ((k2.up _ (by omega)).trans t2) (by rw [t5, h4]) (by rw [t4, hK, h0]) (by rw [t3, hE]) (fun _ => ?_)
        rw [t6, t3, ← hE]
        rfl
    · rw [if_pos (by rw [tv_0]; exact c2), if_pos (by omega)]
      have hE : tkE (ρ 37) (ρ 4 1) (ρ 5 4) = ρ 5 4 + 1 := by unfold tkE; rw [if_neg (by omega), if_neg c, if_neg c2]
      have fin : ∀ v, 3 ≤ v ∧ v ≤ 4 → tkK (ρ 37) (ρ 4 1) (ρ 5 4) = v → Q none (toM (rup (rup ρ1 5 5 v) 5 4 (ρ 5 4 + 1)) τ) := fun v v1 v2 => by
        refine H _ (TI_up (TI_up hT1 5 5 (x := v) (show 0 ≤ v ∧ v ≤ 4 by omega) (by omega)) 5 4 (x := ρ 5 4 + 1) (show 0 ≤ ρ 5 4 + 1 ∧ ρ 5 4 + 1 ≤ 200 by omega) (by omega)) ((k1.up _ (by omega)).up _ (by omega)) ?_ ?_ ?_ (fun z => by omega)
        · rw [rup5 (by decide), rup5 (by decide), f4]
        · rw [rup5 (by decide), rup_same, v2]
        · rw [rup_same, hE]
      split
      · rename_i c3
        exact fin 3 (by omega) (by unfold tkK; rw [if_neg (by omega), if_neg c, if_neg c2, if_pos c3])
      · rename_i c3
        exact fin 4 (by omega) (by unfold tkK; rw [if_neg (by omega), if_neg c, if_neg c2, if_neg c3])
theorem c_tok : ∀ (d : Nat) (ρ : rm), TI ρ → (0 ≤ ρ 5 4 ∧ ρ 5 4 ≤ ρ 4 1) → (ρ 4 1 - ρ 5 4).toNat = d → (∀ ρ', TI ρ' → K5 ρ ρ' → ρ' 5 6 = tkS (ρ 37) (ρ 4 1) (ρ 5 4) → ρ' 5 5 = tkK (ρ 37) (ρ 4 1) (ρ' 5 6) → ρ' 5 4 = tkE (ρ 37) (ρ 4 1) (ρ' 5 6) → (tkK (ρ 37) (ρ 4 1) (ρ' 5 6) = 2 → ρ' 5 7 = tkV (ρ 37) (ρ 4 1) (ρ' 5 6)) → Q none (toM ρ' τ)) → G 51 0 [some (.ref 5)] [] (toM ρ τ) Q := by
  intro d
  induction d with
  | zero =>
    intro ρ hT hp hd H
    have hn : 0 ≤ ρ 4 1 ∧ ρ 4 1 ≤ 200 := hT.2 4 1
    rw [b51_0 ρ τ hT.1, if_pos (by omega), if_neg (by omega)]
    have e6 : rup (rup ρ 5 6 (ρ 5 4)) 5 5 0 5 6 = ρ 5 4 := by rw [rup5 (by decide)]; exact rup_same _ _ _ _
    have e4 : rup (rup ρ 5 6 (ρ 5 4)) 5 5 0 5 4 = ρ 5 4 := by rw [rup5 (by decide), rup5 (by decide)]
    have hK : tkK (ρ 37) (ρ 4 1) (ρ 5 4) = 0 := by unfold tkK; rw [if_pos (by omega)]
    refine H _ (TI_up (TI_up hT 5 6 (x := ρ 5 4) (show 0 ≤ ρ 5 4 ∧ ρ 5 4 ≤ 200 by omega) (by omega)) 5 5 (x := 0) (show (0 : Int) ≤ 0 ∧ (0 : Int) ≤ 4 by omega) (by omega)) (((K5.refl ρ).up _ (by omega)).up _ (by omega)) ?_ ?_ ?_ ?_
    · rw [e6]; exact (ru_stop (by omega)).symm
    · rw [e6, hK]; exact rup_same _ _ _ _
    · rw [e6, e4]; unfold tkE; rw [if_pos (by omega)]
    · rw [e6, hK]; intro z; omega
  | succ d ih =>
    intro ρ hT hp hd H
    have hn : 0 ≤ ρ 4 1 ∧ ρ 4 1 ≤ 200 := hT.2 4 1
    rw [b51_0 ρ τ hT.1, if_neg (by omega), if_pos (by omega)]
    by_cases c : ρ 37 (ρ 5 4) = 32
    · rw [if_pos c]
      have e1 : rup ρ 5 4 (ρ 5 4 + 1) 5 4 = ρ 5 4 + 1 := rup_same _ _ _ _
      have e2 : rup ρ 5 4 (ρ 5 4 + 1) 4 1 = ρ 4 1 := rup_ne _ _ _ _ (by decide)
      have e3 : rup ρ 5 4 (ρ 5 4 + 1) 37 = ρ 37 := rup_fn (by decide)
      refine ih _ (TI_up hT 5 4 (x := ρ 5 4 + 1) (show 0 ≤ ρ 5 4 + 1 ∧ ρ 5 4 + 1 ≤ 200 by omega) (by omega)) (by rw [e1, e2]; omega) (by rw [e1, e2]; omega) (fun ρ' t1 t2 t3 t4 t5 t6 => ?_)
      rw [e1, e2, e3] at t3
      rw [e2, e3] at t4 t5 t6
      exact H ρ' t1 (((K5.refl ρ).up _ (by omega)).trans t2) (by rw [t3]; exact (ru_go (P := q_bla) (by omega) c).symm) t4 t5 t6
    · rw [if_neg c, if_pos (by omega), if_pos (by omega)]
      have e : tkS (ρ 37) (ρ 4 1) (ρ 5 4) = ρ 5 4 := ru_no c
      refine c_tok1 hT (by omega) (fun ρ' t1 t2 t3 t4 t5 t6 => H ρ' t1 t2 (by rw [t3, e]) (by rw [t3]; exact t4) (by rw [t3]; exact t5) (by rw [t3]; exact t6))
end CT
