/-! bells bind houses: the reference -/
theorem tm0 {x : Int} : Int.tmod x 1440 = 0 ↔ x % 1440 = 0 := by
  by_cases h : 0 ≤ x
  · rw [Int.tmod_eq_emod_of_nonneg h]
  · have h2 : Int.tmod x 1440 = -((-x) % 1440) := by
      rw [← Int.tmod_eq_emod_of_nonneg (by omega), Int.neg_tmod, Int.neg_neg]
    rw [h2]
    omega
def Md (n m j : Int) (f s p : Int → Int) (cn : Int) (β ε : Int → Int) : Prop :=
  (∀ h, 0 ≤ h → h < n → (0 ≤ β h ∧ β h < n) ∧ β (β h) = β h ∧ 0 ≤ ε h ∧ ε h < 1440) ∧
  (∀ k, 0 ≤ k → k < j → β (f k) = β (s k)) ∧
  (∀ γ : Int → Int, (∀ k, 0 ≤ k → k < m → γ (f k) = γ (s k)) → ∀ h, 0 ≤ h → h < n → γ h = γ (β h)) ∧
  (cn = 1 → ∀ k, 0 ≤ k → k < j → (ε (f k) - p k - ε (s k)) % 1440 = 0) ∧
  (∀ φ : Int → Int, (∀ k, 0 ≤ k → k < m → (φ (f k) - p k - φ (s k)) % 1440 = 0) → cn = 1 ∧ ∀ h, 0 ≤ h → h < n → (ε h - φ h + φ (β h)) % 1440 = 0) ∧ (cn = 0 ∨ cn = 1)
section MD
variable {n m j cn mo : Int} {f s p β ε β' ε' : Int → Int}
theorem md_same (hE : ∀ k, 0 ≤ k → k < m → (0 ≤ f k ∧ f k < n) ∧ (0 ≤ s k ∧ s k < n)) (hj : 0 ≤ j ∧ j < m) (h : Md n m j f s p cn β ε) (hm : (mo + p j) % 1440 = 0) (hb : β (f j) = β (s j)) {cn' : Int} (hc : cn' = if cn = 1 ∧ (ε (s j) - ε (f j) - mo) % 1440 = 0 then 1 else 0) : Md n m (j + 1) f s p cn' β ε := by
  obtain ⟨h1, h2, h3, h4, h5, h6⟩ := h
  have e := hE j hj.1 hj.2
  refine ⟨h1, fun k k1 k2 => ?_, h3, fun z k k1 k2 => ?_, fun φ hφ => ⟨?_, (h5 φ hφ).2⟩, ?_⟩
  · by_cases c : k = j
    · rw [c]; exact hb
    · exact h2 k k1 (by omega)
  · rw [hc] at z
    by_cases c2 : cn = 1 ∧ (ε (s j) - ε (f j) - mo) % 1440 = 0
    · by_cases c : k = j
      · rw [c]; omega
      · exact h4 c2.1 k k1 (by omega)
    · rw [if_neg c2] at z; omega
  · obtain ⟨a1, a2⟩ := h5 φ hφ
    have b1 := a2 (f j) e.1.1 e.1.2
    have b2 := a2 (s j) e.2.1 e.2.2
    have b3 := hφ j hj.1 hj.2
    rw [hb] at b1
    rw [hc, if_pos ⟨a1, by omega⟩]
  · rw [hc]
    split
    · exact Or.inr rfl
    · exact Or.inl rfl
theorem md_bind (hE : ∀ k, 0 ≤ k → k < m → (0 ≤ f k ∧ f k < n) ∧ (0 ≤ s k ∧ s k < n)) (hj : 0 ≤ j ∧ j < m) (h : Md n m j f s p cn β ε) (hm : (mo + p j) % 1440 = 0) (hb : ¬ β (f j) = β (s j))
    (hβ : ∀ h, 0 ≤ h → h < n → β' h = if β h = β (s j) then β (f j) else β h) (hε : ∀ h, 0 ≤ h → h < n → ε' h = if β h = β (s j) then (ε h + (ε (f j) + mo - ε (s j)) % 1440) % 1440 else ε h) : Md n m (j + 1) f s p cn β' ε' := by
  obtain ⟨h1, h2, h3, h4, h5, h6⟩ := h
  have e := hE j hj.1 hj.2
  have rf := h1 (f j) e.1.1 e.1.2
  have rs := h1 (s j) e.2.1 e.2.2
  refine ⟨fun x x1 x2 => ?_, fun k k1 k2 => ?_, fun γ hγ x x1 x2 => ?_, fun z k k1 k2 => ?_, fun φ hφ => ⟨(h5 φ hφ).1, fun x x1 x2 => ?_⟩, h6⟩
  · have rx := h1 x x1 x2
    rw [hβ x x1 x2, hε x x1 x2]
    by_cases c : β x = β (s j)
    · rw [if_pos c, if_pos c]
      refine ⟨rf.1, ?_, by omega⟩
      rw [hβ _ rf.1.1 rf.1.2, rf.2.1, if_neg hb]
    · rw [if_neg c, if_neg c]
      refine ⟨rx.1, ?_, rx.2.2⟩
      rw [hβ _ rx.1.1 rx.1.2, rx.2.1, if_neg c]
  · by_cases c : k = j
    · rw [c, hβ _ e.1.1 e.1.2, hβ _ e.2.1 e.2.2, if_neg hb, if_pos rfl]
    · have ek := hE k k1 (by omega)
      rw [hβ _ ek.1.1 ek.1.2, hβ _ ek.2.1 ek.2.2, h2 k k1 (by omega)]
  · rw [hβ x x1 x2]
    have a1 := h3 γ hγ x x1 x2
    by_cases c : β x = β (s j)
    · rw [if_pos c]
      have a2 := h3 γ hγ (f j) e.1.1 e.1.2
      have a3 := h3 γ hγ (s j) e.2.1 e.2.2
      have a4 := hγ j hj.1 hj.2
      rw [c] at a1
      rw [a1, ← a3, ← a4, a2]
    · rw [if_neg c]; exact a1
  · by_cases c : k = j
    · rw [c, hε _ e.1.1 e.1.2, hε _ e.2.1 e.2.2, if_neg hb, if_pos rfl]
      omega
    · have ek := hE k k1 (by omega)
      have a := h4 z k k1 (by omega)
      rw [hε _ ek.1.1 ek.1.2, hε _ ek.2.1 ek.2.2, h2 k k1 (by omega)]
      split <;> omega
  · obtain ⟨-, a2⟩ := h5 φ hφ
    have b0 := a2 x x1 x2
    have b1 := a2 (f j) e.1.1 e.1.2
    have b2 := a2 (s j) e.2.1 e.2.2
    have b3 := hφ j hj.1 hj.2
    rw [hβ x x1 x2, hε x x1 x2]
    by_cases c : β x = β (s j)
    · rw [if_pos c, if_pos c]
      rw [c] at b0
      omega
    · rw [if_neg c, if_neg c]; exact b0
end MD
section MB
variable {Q : Option Value → mm → Prop} {τ : Int64}
theorem m_bind {ρ1 : rm} (hT : TI ρ1) {u v d : Int} (hu : 0 ≤ u ∧ u ≤ 9) (hv : 0 ≤ v ∧ v ≤ 9) (hd : 0 ≤ d ∧ d < 1440)
    (H : ∀ ρ', TI ρ' → (∀ a j, ¬ (a = 66 ∨ a = 67) → ρ' a j = ρ1 a j) → (∀ h, 0 ≤ h → h < ρ1 51 0 → (ρ' 66 h = if ρ1 66 h = u then v else ρ1 66 h) ∧ (ρ' 67 h = if ρ1 66 h = u then (ρ1 67 h + d) % 1440 else ρ1 67 h)) → Q none (toM ρ' τ)) :
    G 168 0 [some (.ref 51), some (vI u), some (vI v), some (vI d)] [] (toM ρ1 τ) Q := by
  have hn : 2 ≤ ρ1 51 0 ∧ ρ1 51 0 ≤ 10 := hT.2 51 0
  have su : SM u := ⟨by omega, by omega⟩
  have sv : SM v := ⟨by omega, by omega⟩
  have sd_ : SM d := ⟨by omega, by omega⟩
  rw [b168_0 ρ1 τ u v d hT.1 su sv sd_]
  refine lpJ (S := rm) (P := fun i ρ' t => G 168 3 (some (.ref 51) :: some (vI u) :: some (vI v) :: some (vI d) :: some (vI i) :: t) [] (toM ρ' τ) Q) (inv := fun i ρ' => 0 ≤ i ∧ TI ρ' ∧ (∀ a j, ¬ (a = 66 ∨ a = 67) → ρ' a j = ρ1 a j) ∧ (∀ h, 0 ≤ h → h < i → (ρ' 66 h = if ρ1 66 h = u then v else ρ1 66 h) ∧ (ρ' 67 h = if ρ1 66 h = u then (ρ1 67 h + d) % 1440 else ρ1 67 h)) ∧ ∀ h, i ≤ h → ρ' 66 h = ρ1 66 h ∧ ρ' 67 h = ρ1 67 h) (n := ρ1 51 0) ?_ (ρ1 51 0).toNat 0 ρ1 [] (by omega) ⟨by omega, hT, fun _ _ _ => rfl, fun h z1 z2 => by omega, fun _ _ => ⟨rfl, rfl⟩⟩ ?_
  · rintro i ρ2 t z1 ⟨z0, hT2, hF2, ha, hb⟩ H2
    have e0 : ρ2 51 0 = ρ1 51 0 := hF2 51 0 (by omega)
    have r66 : 0 ≤ ρ2 66 i ∧ ρ2 66 i ≤ 9 := hT2.2 66 i
    have r67 : 0 ≤ ρ2 67 i ∧ ρ2 67 i ≤ 1439 := hT2.2 67 i
    have bi_ := hb i (by omega)
    show G 168 3 (some (.ref 51) :: some (vI u) :: some (vI v) :: some (vI d) :: some (vI i) :: t) [] (toM ρ2 τ) Q
    rw [b168_3 ρ2 τ u v d i t hT2.1 su sv sd_ ⟨by omega, by omega⟩, if_neg (by omega), if_pos (by omega)]
    by_cases c : ρ2 66 i = u
    · rw [if_pos c, if_pos (by omega), if_pos (by omega), if_pos (by omega), Int.tmod_eq_emod_of_nonneg (by omega)]
      refine H2 _ _ ⟨by omega, TI_up (TI_up hT2 66 i (x := v) (show 0 ≤ v ∧ v ≤ 9 from hv) (by omega)) 67 i (show 0 ≤ (ρ2 67 i + d) % 1440 ∧ (ρ2 67 i + d) % 1440 ≤ 1439 by omega) (by omega), fun a j h9 => ?_, fun x x1 x2 => ?_, fun x x1 => ?_⟩
      · rw [rup_ne _ _ _ _ (fun z => h9 (Or.inr z)), rup_ne _ _ _ _ (fun z => h9 (Or.inl z))]
        exact hF2 a j h9
      · by_cases c2 : x = i
        · rw [c2, rup_ne _ _ _ _ (by decide), rup_same, rup_same, ← bi_.1, ← bi_.2, if_pos c, if_pos c]
          exact ⟨rfl, rfl⟩
        · rw [rup_ne _ _ _ _ (by decide), rup_sl c2, rup_sl c2, rup_ne _ _ _ _ (by decide)]
          exact ha x x1 (by omega)
      · rw [rup_ne _ _ _ _ (by decide), rup_sl (by omega), rup_sl (by omega), rup_ne _ _ _ _ (by decide)]
        exact hb x (by omega)
    · rw [if_neg c]
      refine H2 _ _ ⟨by omega, hT2, hF2, fun x x1 x2 => ?_, fun x x1 => hb x (by omega)⟩
      by_cases c2 : x = i
      · rw [c2, ← bi_.1, ← bi_.2, if_neg c, if_neg c]
        exact ⟨rfl, rfl⟩
      · exact ha x x1 (by omega)
  · rintro ρ2 t ⟨z0, hT2, hF2, ha, hb⟩
    have e0 : ρ2 51 0 = ρ1 51 0 := hF2 51 0 (by omega)
    show G 168 3 (some (.ref 51) :: some (vI u) :: some (vI v) :: some (vI d) :: some (vI (ρ1 51 0)) :: t) [] (toM ρ2 τ) Q
    rw [b168_3 ρ2 τ u v d _ t hT2.1 su sv sd_ ⟨by omega, by omega⟩, if_pos (by omega)]
    exact H ρ2 hT2 hF2 ha
def mP (ρ : rm) (k : Int) : Int := (ρ 63 (4 * k + 1) + oS ρ (ρ 63 (4 * k)) - ρ 63 (4 * k + 3) - oS ρ (ρ 63 (4 * k + 2))) % 1440
theorem m_layB {ρ0 : rm} (hR : RR ρ0)
    (H : ∀ ρ' cn, TI ρ' → (∀ a j, ¬ (a = 66 ∨ a = 67) → ρ' a j = ρ0 a j) → Md (ρ0 51 0) (ρ0 51 30) (ρ0 51 30) (fun k => ρ0 63 (4 * k)) (fun k => ρ0 63 (4 * k + 2)) (mP ρ0) cn (ρ' 66) (ρ' 67) → Q (some (vI cn)) (toM ρ' τ)) : G 167 0 [some (.ref 51)] [] (toM ρ0 τ) Q := by
  have hT0 := hR.1
  have hn := hR.nb
  have hm : 0 ≤ ρ0 51 30 ∧ ρ0 51 30 ≤ 10 := hT0.2 51 30
  obtain ⟨-, hb⟩ := hR.B
  have hE : ∀ k, 0 ≤ k → k < ρ0 51 30 → (0 ≤ ρ0 63 (4 * k) ∧ ρ0 63 (4 * k) < ρ0 51 0) ∧ (0 ≤ ρ0 63 (4 * k + 2) ∧ ρ0 63 (4 * k + 2) < ρ0 51 0) := fun k k1 k2 => by
    have a1 := hb k k1 k2
    have a2 := T63a hT0 k
    have a3 := T63b hT0 k
    omega
  rw [b167_0 ρ0 τ hT0.1]
  refine lpJ (S := rm) (P := fun i ρ' t => G 167 2 (some (.ref 51) :: some (vI i) :: t) [] (toM ρ' τ) Q) (inv := fun i ρ' => 0 ≤ i ∧ TI ρ' ∧ (∀ a j, ¬ (a = 66 ∨ a = 67) → ρ' a j = ρ0 a j) ∧ ∀ h, 0 ≤ h → h < i → ρ' 66 h = h ∧ ρ' 67 h = 0) (n := ρ0 51 0) ?_ (ρ0 51 0).toNat 0 ρ0 [] (by omega) ⟨by omega, hT0, fun _ _ _ => rfl, fun h z1 z2 => by omega⟩ ?_
  · rintro i ρ1 t z1 ⟨z0, hT1, hF1, hc⟩ H2
    have e1 : ρ1 51 0 = ρ0 51 0 := hF1 51 0 (by omega)
    show G 167 2 (some (.ref 51) :: some (vI i) :: t) [] (toM ρ1 τ) Q
    rw [b167_2 ρ1 τ i t hT1.1 ⟨by omega, by omega⟩, if_neg (by omega), if_pos (by omega), if_pos (by omega)]
    refine H2 _ _ ⟨by omega, TI_up (TI_up hT1 66 i (show 0 ≤ i ∧ i ≤ 9 by omega) (by omega)) 67 i (x := 0) (show (0 : Int) ≤ 0 ∧ (0 : Int) ≤ 1439 by omega) (by omega), fun a j h9 => ?_, fun x x1 x2 => ?_⟩
    · rw [rup_ne _ _ _ _ (fun z => h9 (Or.inr z)), rup_ne _ _ _ _ (fun z => h9 (Or.inl z))]
      exact hF1 a j h9
    · by_cases c2 : x = i
      · rw [c2, rup_ne _ _ _ _ (by decide), rup_same, rup_same]
        exact ⟨rfl, rfl⟩
      · rw [rup_ne _ _ _ _ (by decide), rup_sl c2, rup_sl c2, rup_ne _ _ _ _ (by decide)]
        exact hc x x1 (by omega)
  · rintro ρ1 t ⟨z0, hT1, hF1, hc⟩
    have e1 : ρ1 51 0 = ρ0 51 0 := hF1 51 0 (by omega)
    show G 167 2 (some (.ref 51) :: some (vI (ρ0 51 0)) :: t) [] (toM ρ1 τ) Q
    rw [b167_2 ρ1 τ _ t hT1.1 ⟨by omega, by omega⟩, if_pos (by omega)]
    refine lpJ (S := Int × rm) (P := fun i s t => G 167 34 (some (.ref 51) :: some (vI s.1) :: some (vI i) :: t) [] (toM s.2 τ) Q) (inv := fun i s => 0 ≤ i ∧ TI s.2 ∧ (∀ a j, ¬ (a = 66 ∨ a = 67) → s.2 a j = ρ0 a j) ∧ Md (ρ0 51 0) (ρ0 51 30) i (fun k => ρ0 63 (4 * k)) (fun k => ρ0 63 (4 * k + 2)) (mP ρ0) s.1 (s.2 66) (s.2 67)) (n := ρ0 51 30) ?_ (ρ0 51 30).toNat 0 (1, ρ1) _ (by omega) ⟨by omega, hT1, hF1, ?_⟩ ?_
    · rintro i ⟨cn, ρ2⟩ t y1 ⟨y0, hT2, hF2, hM⟩ H2
      dsimp only at hT2 hF2 hM
      have e2 : ρ2 51 30 = ρ0 51 30 := hF2 51 30 (by omega)
      have e52 : ρ2 52 = ρ0 52 := funext fun j => hF2 52 j (by omega)
      have eo : ∀ h, oS ρ2 h = oS ρ0 h := fun h => by unfold oS; rw [e52]
      have ek := hE i y0 y1
      have cn01 := hM.2.2.2.2.2
      have w1 : 0 ≤ ρ0 63 (4 * i + 1) ∧ ρ0 63 (4 * i + 1) ≤ 1439 := by have := hT0.2 63 (4 * i + 1); rw [show loB 63 (4 * i + 1) = 0 from rfl, show hiB 63 (4 * i + 1) = if (4 * i + 1) % 2 = 0 then 9 else 1439 from rfl, if_neg (by omega)] at this; exact this
      have w3 : 0 ≤ ρ0 63 (4 * i + 3) ∧ ρ0 63 (4 * i + 3) ≤ 1439 := by have := hT0.2 63 (4 * i + 3); rw [show loB 63 (4 * i + 3) = 0 from rfl, show hiB 63 (4 * i + 3) = if (4 * i + 3) % 2 = 0 then 9 else 1439 from rfl, if_neg (by omega)] at this; exact this
      have oa := oS_rg hT0 (h := ρ0 63 (4 * i)) (by omega)
      have ob := oS_rg hT0 (h := ρ0 63 (4 * i + 2)) (by omega)
      have sc : SM cn := ⟨by omega, by omega⟩
      have si : SM i := ⟨by omega, by omega⟩
      have sa : SM (ρ0 63 (4 * i)) := ⟨by omega, by omega⟩
      have sb : SM (ρ0 63 (4 * i + 2)) := ⟨by omega, by omega⟩
      show G 167 34 (some (.ref 51) :: some (vI cn) :: some (vI i) :: t) [] (toM ρ2 τ) Q
      rw [b167_34 ρ2 τ cn i t hT2.1 sc si cn01, if_neg (by omega), if_pos (by omega), if_pos (by omega), if_pos (by omega), hF2 63 (4 * i) (by omega), hF2 63 (4 * i + 2) (by omega), hF2 63 (4 * i + 3) (by omega), m_offOf hT2.1 (by omega), eo, b167_79 ρ2 τ cn i _ _ _ _ _ hT2.1 sc si sa sb ⟨by omega, by omega⟩ ⟨by omega, by omega⟩, if_pos (by omega), hF2 63 (4 * i + 1) (by omega), m_offOf hT2.1 (by omega), eo, b167_96 ρ2 τ cn i _ _ _ _ _ hT2.1 sc si sa sb ⟨by omega, by omega⟩ ⟨by omega, by omega⟩, if_pos (by omega), if_pos (by omega), Int.tmod_eq_emod_of_nonneg (a := ρ0 63 (4 * i + 3) + oS ρ0 (ρ0 63 (4 * i + 2)) - ρ0 63 (4 * i + 1) - oS ρ0 (ρ0 63 (4 * i)) + 144000) (by omega)]
      have hmo : ((ρ0 63 (4 * i + 3) + oS ρ0 (ρ0 63 (4 * i + 2)) - ρ0 63 (4 * i + 1) - oS ρ0 (ρ0 63 (4 * i)) + 144000) % 1440 + mP ρ0 i) % 1440 = 0 := by unfold mP; omega
      have mr_ : 0 ≤ (ρ0 63 (4 * i + 3) + oS ρ0 (ρ0 63 (4 * i + 2)) - ρ0 63 (4 * i + 1) - oS ρ0 (ρ0 63 (4 * i)) + 144000) % 1440 ∧ (ρ0 63 (4 * i + 3) + oS ρ0 (ρ0 63 (4 * i + 2)) - ρ0 63 (4 * i + 1) - oS ρ0 (ρ0 63 (4 * i)) + 144000) % 1440 < 1440 := by omega
      generalize (ρ0 63 (4 * i + 3) + oS ρ0 (ρ0 63 (4 * i + 2)) - ρ0 63 (4 * i + 1) - oS ρ0 (ρ0 63 (4 * i)) + 144000) % 1440 = mo at hmo mr_ ⊢
      have hr := hM.1
      have ra := hr _ ek.1.1 ek.1.2
      have rb := hr _ ek.2.1 ek.2.2
      by_cases c : ρ2 66 (ρ0 63 (4 * i)) = ρ2 66 (ρ0 63 (4 * i + 2))
      · rw [if_pos c]
        have go : ∀ cn' t', (cn' = if cn = 1 ∧ (ρ2 67 (ρ0 63 (4 * i + 2)) - ρ2 67 (ρ0 63 (4 * i)) - mo) % 1440 = 0 then 1 else 0) → G 167 34 (some (.ref 51) :: some (vI cn') :: some (vI (i + 1)) :: t') [] (toM ρ2 τ) Q := fun cn' t' hc' =>
          H2 (cn', ρ2) t' ⟨by omega, hT2, hF2, md_same (f := fun k => ρ0 63 (4 * k)) (s := fun k => ρ0 63 (4 * k + 2)) hE ⟨y0, y1⟩ hM hmo c hc'⟩
        by_cases c0 : cn = 0
        · rw [if_pos c0]
          exact go 0 _ (by rw [if_neg (by omega)])
        · rw [if_neg c0, if_pos (by omega), if_pos (by omega)]
          by_cases c1 : Int.tmod (ρ2 67 (ρ0 63 (4 * i + 2)) - ρ2 67 (ρ0 63 (4 * i)) - mo) 1440 = 0
          · rw [if_pos c1]
            exact go 1 _ (by rw [if_pos ⟨by omega, tm0.mp c1⟩])
          · rw [if_neg c1]
            exact go 0 _ (by rw [if_neg (fun z => c1 (tm0.mpr z.2))])
      · rw [if_neg c, if_pos (by omega), if_pos (by omega), if_pos (by omega), if_pos (by omega), Int.tmod_eq_emod_of_nonneg (by omega)]
        have ed : (ρ2 67 (ρ0 63 (4 * i)) + mo - ρ2 67 (ρ0 63 (4 * i + 2)) + 2880) % 1440 = (ρ2 67 (ρ0 63 (4 * i)) + mo - ρ2 67 (ρ0 63 (4 * i + 2))) % 1440 := by omega
        rw [ed]
        refine m_bind hT2 (by omega) (by omega) (by omega) (fun ρ3 hT3 hF3 hv3 => ?_)
        show G 167 201 (some (.ref 51) :: some (vI cn) :: some (vI i) :: some (vI (ρ0 63 (4 * i))) :: some (vI (ρ0 63 (4 * i + 2))) :: some (vI mo) :: _) ((none : Option Value).toList ++ []) (toM ρ3 τ) Q
        rw [b167_201 ρ3 τ cn i _ _ mo _ hT3.1 sc si sa sb ⟨by omega, by omega⟩]
        have e20 : ρ2 51 0 = ρ0 51 0 := hF2 51 0 (by omega)
        rw [e20] at hv3
        refine H2 (cn, ρ3) _ ⟨by omega, hT3, fun a j ha => (hF3 a j ha).trans (hF2 a j ha), md_bind (f := fun k => ρ0 63 (4 * k)) (s := fun k => ρ0 63 (4 * k + 2)) hE ⟨y0, y1⟩ hM hmo c (fun h z1 z2 => (hv3 h z1 z2).1) (fun h z1 z2 => (hv3 h z1 z2).2)⟩
    · refine ⟨fun x x1 x2 => ?_, fun k k1 k2 => by omega, fun γ _ x x1 x2 => ?_, fun _ k k1 k2 => by omega, fun φ _ => ⟨rfl, fun x x1 x2 => ?_⟩, Or.inr rfl⟩
      · have := hc x x1 x2
        dsimp only
        rw [this.1, this.1, this.2]
        omega
      · dsimp only
        rw [(hc x x1 x2).1]
      · dsimp only
        rw [(hc x x1 x2).1, (hc x x1 x2).2]
        omega
    · rintro ⟨cn, ρ2⟩ t ⟨y0, hT2, hF2, hM⟩
      dsimp only at hT2 hF2 hM
      have e2 : ρ2 51 30 = ρ0 51 30 := hF2 51 30 (by omega)
      have cn01 := hM.2.2.2.2.2
      show G 167 34 (some (.ref 51) :: some (vI cn) :: some (vI (ρ0 51 30)) :: t) [] (toM ρ2 τ) Q
      rw [b167_34 ρ2 τ cn _ t hT2.1 ⟨by omega, by omega⟩ ⟨by omega, by omega⟩ cn01, if_pos (by omega)]
      exact H ρ2 cn hT2 hF2 hM
end MB
