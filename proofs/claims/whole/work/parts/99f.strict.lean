/-! runs, looked at step by step -/
def stN {α : Type} (n : Nat) (f : Nat → α) : α := match n with
  | 0 => f 0
  | k + 1 => f (k + 1)
theorem stN_eq {α : Type} (n : Nat) (f : Nat → α) : stN n f = f n := by cases n <;> rfl
def stI {α : Type} (x : Int32) (f : Int32 → α) : α := stN x.toBitVec.toNat (fun k => f (Int32.ofBitVec (BitVec.ofNat 32 k)))
theorem stI_eq {α : Type} (x : Int32) (f : Int32 → α) : stI x f = f x := by
  unfold stI
  rw [stN_eq]
  congr 1
  rw [BitVec.ofNat_toNat, BitVec.setWidth_eq]
  exact Int32.toBitVec_inj.mp rfl
def stV {α : Type} (v : Value) (f : Value → α) : α := match v with
  | .int x => stI x (fun x => f (.int x))
  | v => f v
theorem stV_eq {α : Type} (v : Value) (f : Value → α) : stV v f = f v := by
  cases v
  case int x => exact stI_eq x (fun x => f (.int x))
  all_goals rfl
def stL {α : Type} : List Value → (List Value → α) → α
  | [], f => f []
  | v :: t, f => stV v (fun v => stL t (fun t => f (v :: t)))
theorem stL_eq {α : Type} : ∀ (l : List Value) (f : List Value → α), stL l f = f l
  | [], f => rfl
  | v :: t, f => by unfold stL; rw [stV_eq, stL_eq t]
def stO {α : Type} : List (Option Value) → (List (Option Value) → α) → α
  | [], f => f []
  | none :: t, f => stO t (fun t => f (none :: t))
  | some v :: t, f => stV v (fun v => stO t (fun t => f (some v :: t)))
theorem stO_eq {α : Type} : ∀ (l : List (Option Value)) (f : List (Option Value) → α), stO l f = f l
  | [], f => rfl
  | none :: t, f => by unfold stO; rw [stO_eq t]
  | some v :: t, f => by unfold stO; rw [stV_eq, stO_eq t]
def runS (sh : List (Nat × Nat × List Nat)) : Nat → Nat → Nat → List (Option Value) → List Value → mm → Option (Option Value × mm)
  | 0, _, _, _, _, _ => none
  | n + 1, y, pc, lv, st, μ => match stp sh y pc lv st μ with
    | none => none
    | some (.inl (pc', lv', st', μ')) => stN pc' (fun pc' => stL st' (fun st' => stO lv' (fun lv' => runS sh n y pc' lv' st' μ')))
    | some (.inr (.inl (z, as, pc', lv', st', μ'))) => (match stL as (fun as => runS sh n z 0 (ent as) [] μ') with
      | none => none
      | some (v, μ2) => stN pc' (fun pc' => stL (v.toList ++ st') (fun st' => stO lv' (fun lv' => runS sh n y pc' lv' st' μ2))))
    | some (.inr (.inr r)) => some r
theorem runS_eq (sh : List (Nat × Nat × List Nat)) : ∀ (n y pc : Nat) (lv : List (Option Value)) (st : List Value) (μ : mm), runS sh n y pc lv st μ = run sh n y pc lv st μ
  | 0, _, _, _, _, _ => rfl
  | n + 1, y, pc, lv, st, μ => by
    unfold runS run
    split
    · rename_i h; simp only [h]
    · rename_i h; simp only [h, stN_eq, stL_eq, stO_eq]; exact runS_eq sh n _ _ _ _ _
    · rename_i h
      simp only [h, stN_eq, stL_eq, stO_eq]
      rw [runS_eq sh n]
      cases hq : run sh n _ 0 (ent _) [] _ with
      | none => rfl
      | some q => exact runS_eq sh n _ _ _ _ _
    · rename_i h; simp only [h]
