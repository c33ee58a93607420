/-! sets of clocks as bits -/
def bcF (a1 : Int) : Int := ((iI ((((iI ((((iI (a1 - ((iI (((iI a1).toUInt32 >>> ((iI 1).toUInt32 &&& Int32.toUInt32 31)).toInt32.toInt) &&& iI 1431655765).toInt)) &&& iI 858993459).toInt) + ((iI (((iI (a1 - ((iI (((iI a1).toUInt32 >>> ((iI 1).toUInt32 &&& Int32.toUInt32 31)).toInt32.toInt) &&& iI 1431655765).toInt))).toUInt32 >>> ((iI 2).toUInt32 &&& Int32.toUInt32 31)).toInt32.toInt) &&& iI 858993459).toInt)) + (((iI (((iI (a1 - ((iI (((iI a1).toUInt32 >>> ((iI 1).toUInt32 &&& Int32.toUInt32 31)).toInt32.toInt) &&& iI 1431655765).toInt)) &&& iI 858993459).toInt) + ((iI (((iI (a1 - ((iI (((iI a1).toUInt32 >>> ((iI 1).toUInt32 &&& Int32.toUInt32 31)).toInt32.toInt) &&& iI 1431655765).toInt))).toUInt32 >>> ((iI 2).toUInt32 &&& Int32.toUInt32 31)).toInt32.toInt) &&& iI 858993459).toInt))).toUInt32 >>> ((iI 4).toUInt32 &&& Int32.toUInt32 31)).toInt32.toInt)) &&& iI 252645135).toInt) + (((iI ((iI ((((iI (a1 - ((iI (((iI a1).toUInt32 >>> ((iI 1).toUInt32 &&& Int32.toUInt32 31)).toInt32.toInt) &&& iI 1431655765).toInt)) &&& iI 858993459).toInt) + ((iI (((iI (a1 - ((iI (((iI a1).toUInt32 >>> ((iI 1).toUInt32 &&& Int32.toUInt32 31)).toInt32.toInt) &&& iI 1431655765).toInt))).toUInt32 >>> ((iI 2).toUInt32 &&& Int32.toUInt32 31)).toInt32.toInt) &&& iI 858993459).toInt)) + (((iI (((iI (a1 - ((iI (((iI a1).toUInt32 >>> ((iI 1).toUInt32 &&& Int32.toUInt32 31)).toInt32.toInt) &&& iI 1431655765).toInt)) &&& iI 858993459).toInt) + ((iI (((iI (a1 - ((iI (((iI a1).toUInt32 >>> ((iI 1).toUInt32 &&& Int32.toUInt32 31)).toInt32.toInt) &&& iI 1431655765).toInt))).toUInt32 >>> ((iI 2).toUInt32 &&& Int32.toUInt32 31)).toInt32.toInt) &&& iI 858993459).toInt))).toUInt32 >>> ((iI 4).toUInt32 &&& Int32.toUInt32 31)).toInt32.toInt)) &&& iI 252645135).toInt)).toUInt32 >>> ((iI 8).toUInt32 &&& Int32.toUInt32 31)).toInt32.toInt)) + (((iI (((iI ((((iI (a1 - ((iI (((iI a1).toUInt32 >>> ((iI 1).toUInt32 &&& Int32.toUInt32 31)).toInt32.toInt) &&& iI 1431655765).toInt)) &&& iI 858993459).toInt) + ((iI (((iI (a1 - ((iI (((iI a1).toUInt32 >>> ((iI 1).toUInt32 &&& Int32.toUInt32 31)).toInt32.toInt) &&& iI 1431655765).toInt))).toUInt32 >>> ((iI 2).toUInt32 &&& Int32.toUInt32 31)).toInt32.toInt) &&& iI 858993459).toInt)) + (((iI (((iI (a1 - ((iI (((iI a1).toUInt32 >>> ((iI 1).toUInt32 &&& Int32.toUInt32 31)).toInt32.toInt) &&& iI 1431655765).toInt)) &&& iI 858993459).toInt) + ((iI (((iI (a1 - ((iI (((iI a1).toUInt32 >>> ((iI 1).toUInt32 &&& Int32.toUInt32 31)).toInt32.toInt) &&& iI 1431655765).toInt))).toUInt32 >>> ((iI 2).toUInt32 &&& Int32.toUInt32 31)).toInt32.toInt) &&& iI 858993459).toInt))).toUInt32 >>> ((iI 4).toUInt32 &&& Int32.toUInt32 31)).toInt32.toInt)) &&& iI 252645135).toInt) + (((iI ((iI ((((iI (a1 - ((iI (((iI a1).toUInt32 >>> ((iI 1).toUInt32 &&& Int32.toUInt32 31)).toInt32.toInt) &&& iI 1431655765).toInt)) &&& iI 858993459).toInt) + ((iI (((iI (a1 - ((iI (((iI a1).toUInt32 >>> ((iI 1).toUInt32 &&& Int32.toUInt32 31)).toInt32.toInt) &&& iI 1431655765).toInt))).toUInt32 >>> ((iI 2).toUInt32 &&& Int32.toUInt32 31)).toInt32.toInt) &&& iI 858993459).toInt)) + (((iI (((iI (a1 - ((iI (((iI a1).toUInt32 >>> ((iI 1).toUInt32 &&& Int32.toUInt32 31)).toInt32.toInt) &&& iI 1431655765).toInt)) &&& iI 858993459).toInt) + ((iI (((iI (a1 - ((iI (((iI a1).toUInt32 >>> ((iI 1).toUInt32 &&& Int32.toUInt32 31)).toInt32.toInt) &&& iI 1431655765).toInt))).toUInt32 >>> ((iI 2).toUInt32 &&& Int32.toUInt32 31)).toInt32.toInt) &&& iI 858993459).toInt))).toUInt32 >>> ((iI 4).toUInt32 &&& Int32.toUInt32 31)).toInt32.toInt)) &&& iI 252645135).toInt)).toUInt32 >>> ((iI 8).toUInt32 &&& Int32.toUInt32 31)).toInt32.toInt))).toUInt32 >>> ((iI 16).toUInt32 &&& Int32.toUInt32 31)).toInt32.toInt)) &&& iI 63).toInt)
def bi (x h : Int) : Int := if bt x h.toNat then 1 else 0
/-- how many -/
def pc (x : Int) : Int := sF (bi x) 10
def ch (h : Int) : Int := 1024 + ((2 ^ h.toNat : Nat) : Int)
def cs (x h : Int) : Int := if bt x h.toNat then ch h else 0
/-- many first, then great -/
def wtS (x : Int) : Int := sF (cs x) 10
def b1 (x k : Int) : Int := (iI ((iI x >>> (iI k &&& 31)).toInt) &&& iI 1).toInt
theorem bcF_k : ∀ q : Fin 1024, bcF (q.1 : Int) = pc (q.1 : Int) := by decide +kernel
theorem wtS_k : ∀ q : Fin 1024, wtS (q.1 : Int) = 1024 * pc (q.1 : Int) + (q.1 : Int) := by decide +kernel
theorem b1_k : ∀ (q : Fin 1024) (k : Fin 10), b1 (q.1 : Int) (k.1 : Int) = bi (q.1 : Int) (k.1 : Int) := by decide +kernel
theorem of_k {P : Int → Prop} (h : ∀ q : Fin 1024, P (q.1 : Int)) {x : Int} (hx : 0 ≤ x ∧ x < 1024) : P x := by
  have := h ⟨x.toNat, by omega⟩
  rwa [show ((x.toNat : Nat) : Int) = x by omega] at this
theorem bc_eq {x : Int} (hx : 0 ≤ x ∧ x < 1024) : bcF x = pc x := of_k (P := fun x => bcF x = pc x) bcF_k hx
theorem wt_eq {x : Int} (hx : 0 ≤ x ∧ x < 1024) : wtS x = 1024 * pc x + x := of_k (P := fun x => wtS x = 1024 * pc x + x) wtS_k hx
theorem b1_eq {x k : Int} (hx : 0 ≤ x ∧ x < 1024) (hk : 0 ≤ k ∧ k < 10) : b1 x k = bi x k := by
  have := of_k (P := fun x => b1 x (((⟨k.toNat, by omega⟩ : Fin 10).1 : Nat) : Int) = bi x (((⟨k.toNat, by omega⟩ : Fin 10).1 : Nat) : Int)) (fun q => b1_k q ⟨k.toNat, by omega⟩) hx
  rw [show ((k.toNat : Nat) : Int) = k by omega] at this
  exact this
theorem bi_01 (x h : Int) : bi x h = 0 ∨ bi x h = 1 := by unfold bi; split <;> simp
theorem bi_1 (x h : Int) : bi x h = 1 ↔ bt x h.toNat = true := by
  unfold bi
  split <;> simp_all
theorem pc_bd (x : Int) : 0 ≤ pc x ∧ pc x ≤ 10 := by
  have h1 := (sF_mono (g := fun _ => 0) (g' := bi x) 10 (fun q _ _ => by have := bi_01 x q; show 0 ≤ bi x q; omega)).1
  have h2 := (sF_mono (g := bi x) (g' := fun _ => 1) 10 (fun q _ _ => by have := bi_01 x q; show bi x q ≤ 1; omega)).1
  rw [sF_zero] at h1
  rw [sF_one] at h2
  exact ⟨h1, h2⟩
section BC
variable {Q : Option Value → mm → Prop} {τ : Int64} {ρ : rm}
theorem c_bc (hB : BM ρ) {x : Int} (hx : 0 ≤ x ∧ x < 1024) : G 180 0 [some (vI x)] [] (toM ρ τ) Q = Q (some (vI (pc x))) (toM ρ τ) := by
  rw [← bc_eq hx]
  exact b180_0 ρ τ x hB ⟨by omega, by omega⟩
theorem m_has (hB : BM ρ) {x k : Int} (hx : 0 ≤ x ∧ x < 1024) (hk : 0 ≤ k ∧ k < 10) : G 118 0 [some (vI x), some (vI k)] [] (toM ρ τ) Q = Q (some (vI (bi x k))) (toM ρ τ) := by
  rw [b118_0 ρ τ x k hB ⟨by omega, by omega⟩ ⟨by omega, by omega⟩]
  have e : (iI ((iI x >>> (iI k &&& 31)).toInt) &&& iI 1).toInt = bi x k := b1_eq hx hk
  rw [e]
  rcases bi_01 x k with z | z
  · rw [z, if_neg (by decide)]
  · rw [z, if_pos rfl]
theorem m_bits (hB : BM ρ) {x : Int} (hx : 0 ≤ x ∧ x < 1024) : G 170 0 [some (vI x)] [] (toM ρ τ) Q = Q (some (vI (pc x))) (toM ρ τ) := by
  rw [b170_0 ρ τ x hB ⟨by omega, by omega⟩]
  have bd : ∀ k : Nat, (k : Int) ≤ 10 → 0 ≤ sF (bi x) k ∧ sF (bi x) k ≤ k := by
    intro k
    induction k with
    | zero => intro _; exact ⟨Int.le_refl _, Int.le_refl _⟩
    | succ k ih =>
      intro h
      have h1 := ih (by omega)
      have h2 := bi_01 x (k : Int)
      rw [sF_succ]
      omega
  have R := lpe (S := Int) (P := fun i s t => G 170 4 (some (vI x) :: some (vI s) :: some (vI i) :: t) [] (toM ρ τ) Q) (F := sF (bi x)) (n := 10) (X := Q (some (vI (pc x))) (toM ρ τ)) (fun i t h0 h1 H => by
    have b := bd i.toNat (by omega)
    rw [Int.toNat_of_nonneg h0] at b
    show G 170 4 (some (vI x) :: some (vI (sF (bi x) i)) :: some (vI i) :: t) [] (toM ρ τ) Q = _
    rw [b170_4 ρ τ x _ i t hB ⟨by omega, by omega⟩ ⟨by omega, by omega⟩ ⟨by omega, by omega⟩, if_neg (by omega)]
    have e : (iI ((iI x >>> (iI i &&& 31)).toInt) &&& iI 1).toInt = bi x i := b1_eq hx ⟨h0, h1⟩
    have e2 := sF_succ (bi x) i.toNat
    rw [show ((i.toNat + 1 : Nat) : Int) = i + 1 by omega, Int.toNat_of_nonneg h0] at e2
    rw [e, ← e2]
    exact H t) 10 0 [] (by decide) (by decide) (fun t' => by
    have b := bd 10 (by decide)
    show G 170 4 (some (vI x) :: some (vI (pc x)) :: some (vI 10) :: t') [] (toM ρ τ) Q = _
    have := pc_bd x
    rw [b170_4 ρ τ x _ 10 t' hB ⟨by omega, by omega⟩ ⟨by omega, by omega⟩ (by decide), if_pos (by decide)])
  exact R
end BC
/-- all clocks -/
theorem full_k : ∀ (n : Fin 11) (k : Fin 10), 2 ≤ n.1 → (0 ≤ bsh (n.1 : Int) - 1 ∧ bsh (n.1 : Int) - 1 < 1024) ∧ (bt (bsh (n.1 : Int) - 1) k.1 = decide (k.1 < n.1)) ∧ bsh (n.1 : Int) = ((2 ^ n.1 : Nat) : Int) := by decide +kernel
theorem full_eq {n k : Int} (hn : 2 ≤ n ∧ n ≤ 10) (hk : 0 ≤ k ∧ k < 10) : (0 ≤ bsh n - 1 ∧ bsh n - 1 < 1024) ∧ (bt (bsh n - 1) k.toNat = decide (k < n)) ∧ bsh n = ((2 ^ n.toNat : Nat) : Int) := by
  have h := full_k ⟨n.toNat, by omega⟩ ⟨k.toNat, by omega⟩ (by show 2 ≤ n.toNat; omega)
  dsimp only at h
  rw [show ((n.toNat : Nat) : Int) = n by omega] at h
  refine ⟨h.1, ?_, h.2.2⟩
  rw [h.2.1]
  exact decide_eq_decide.mpr (by omega)
theorem wt_inj {x y : Int} (hx : 0 ≤ x ∧ x < 1024) (hy : 0 ≤ y ∧ y < 1024) (h : wtS x = wtS y) : x = y := by
  rw [wt_eq hx, wt_eq hy] at h
  omega
