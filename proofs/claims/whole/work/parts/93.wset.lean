/-! the class: which clocks are wrong -/
theorem bt32 {x : Int} (hx : 0 ≤ x ∧ x < 1024) {k : Nat} (hk : 10 ≤ k) : bt x k = false := bt_up (n := 10) (by decide) hx k hk
theorem or_or {s r : Int} (hs : 0 ≤ s ∧ s < 1024) (hr : 0 ≤ r ∧ r < 1024) : 0 ≤ bor s r ∧ bor s r < 1024 := by
  have := bt_rg (bor_sb s r) (n := 10) (by decide) (fun k h1 h2 => by rw [bt_or, bt32 hs h1, bt32 hr h1]; rfl)
  exact this
theorem or_bit {s i : Int} (hs : 0 ≤ s ∧ s < 1024) (hi : 0 ≤ i ∧ i < 10) : (0 ≤ bor s (bsh i) ∧ bor s (bsh i) < 1024) ∧ ∀ j, 0 ≤ j → j < 10 → (bt (bor s (bsh i)) j.toNat = true ↔ bt s j.toNat = true ∨ j = i) := by
  refine ⟨?_, fun j j1 j2 => ?_⟩
  · have := bt_rg (bor_sb s (bsh i)) (n := 10) (by decide) (fun k h1 h2 => by rw [bt_or, bt32 hs h1, bt_sh (by omega) h2, decide_eq_false (by omega)]; rfl)
    exact this
  · rw [bt_or, bt_sh (by omega) (by omega), Bool.or_eq_true, decide_eq_true_iff]
    constructor
    · rintro (z | z)
      · exact Or.inl z
      · exact Or.inr (by omega)
    · rintro (z | z)
      · exact Or.inl z
      · exact Or.inr (by omega)
theorem an_no {a r : Int} (ha : 0 ≤ a ∧ a < 1024) : (0 ≤ ban a (bno r) ∧ ban a (bno r) < 1024) ∧ ∀ j : Int, 0 ≤ j → j < 10 → (bt (ban a (bno r)) j.toNat = true ↔ bt a j.toNat = true ∧ ¬ bt r j.toNat = true) := by
  refine ⟨?_, fun j j1 j2 => ?_⟩
  · have := bt_rg (ban_sb a (bno r)) (n := 10) (by decide) (fun k h1 h2 => by rw [bt_and, bt32 ha h1]; rfl)
    exact this
  · rw [bt_and, bt_no r (by omega), Bool.and_eq_true]
    cases bt r j.toNat <;> simp
def AS (n : Int) (γ α : Int → Int) (h x : Int) : Prop := (0 ≤ x ∧ x < 1024) ∧ ∀ j, 0 ≤ j → j < 10 → (bt x j.toNat = true ↔ j < n ∧ γ j = γ h ∧ α j = α h)
theorem AS.wt {n h x : Int} {γ α : Int → Int} (ha : AS n γ α h x) : wtS x = sF (agF n γ α h) 10 := by
  unfold wtS
  refine sF_cg 10 (fun q q1 q2 => ?_)
  have := ha.2 q q1 (by omega)
  unfold cs agF
  by_cases c : bt x q.toNat = true
  · rw [if_pos c, if_pos (this.mp c)]
  · rw [if_neg c, if_neg (fun z => c (this.mpr z))]
/-- right clocks of a group -/
def RG1 (n : Int) (γ α : Int → Int) (g x : Int) : Prop := (∃ h0, (0 ≤ h0 ∧ h0 < n) ∧ γ h0 = g ∧ ∀ h, 0 ≤ h → h < 10 → (bt x h.toNat = true ↔ h < n ∧ γ h = g ∧ α h = α h0)) ∧ ∀ h1, 0 ≤ h1 → h1 < n → γ h1 = g → sF (agF n γ α h1) 10 ≤ wtS x
def CON (ρ0 ρ2 : rm) : Prop := ∀ k, 0 ≤ k → k < ρ0 8 0 → (ρ2 47 (ρ0 43 k) - ρ2 47 (ρ0 44 k)) % 1440 = ρ0 45 k
section WC
variable {Q : Option Value → mm → Prop} {τ : Int64} {ρ : rm}
theorem c_agree (hT : TI ρ) {h : Int} (hh : 0 ≤ h ∧ h < ρ 1 1) (H : ∀ x, AS (ρ 1 1) (ρ 46) (ρ 47) h x → Q (some (vI x)) (toM ρ τ)) : G 8 0 [some (.ref 8), some (vI h)] [] (toM ρ τ) Q := by
  have hn : 2 ≤ ρ 1 1 ∧ ρ 1 1 ≤ 10 := hT.2 1 1
  have sh : SM h := ⟨by omega, by omega⟩
  rw [b8_0 ρ τ h hT.1 sh]
  refine lpJ (S := Int) (P := fun i s t => G 8 4 (some (.ref 8) :: some (vI h) :: some (vI s) :: some (vI i) :: t) [] (toM ρ τ) Q) (inv := fun i s => 0 ≤ i ∧ (0 ≤ s ∧ s < 1024) ∧ ∀ j, 0 ≤ j → j < 10 → (bt s j.toNat = true ↔ j < i ∧ ρ 46 j = ρ 46 h ∧ ρ 47 j = ρ 47 h)) (n := ρ 1 1) ?_ (ρ 1 1).toNat 0 0 [] (by omega) ⟨by omega, by omega, fun j j1 j2 => ⟨fun z => (by rw [bt_0] at z; cases z), fun z => by omega⟩⟩ ?_
  · rintro i s t h1 ⟨h0, hs, hb⟩ H2
    show G 8 4 (some (.ref 8) :: some (vI h) :: some (vI s) :: some (vI i) :: t) [] (toM ρ τ) Q
    rw [b8_4 ρ τ h s i t hT.1 sh ⟨by omega, by omega⟩ ⟨by omega, by omega⟩, if_neg (by omega), if_pos (by omega), if_pos (by omega)]
    by_cases c1 : ρ 46 i = ρ 46 h
    · rw [if_pos c1, if_pos (by omega), if_pos (by omega)]
      by_cases c2 : ρ 47 i = ρ 47 h
      · rw [if_pos c2]
        have ob := or_bit hs (i := i) (by omega)
        refine H2 (bor s (bsh i)) _ ⟨by omega, ob.1, fun j j1 j2 => (ob.2 j j1 j2).trans ?_⟩
        rw [hb j j1 j2]
        constructor
        · rintro (z | z)
          · exact ⟨by omega, z.2⟩
          · rw [z]; exact ⟨by omega, c1, c2⟩
        · rintro ⟨z1, z2⟩
          by_cases c3 : j = i
          · exact Or.inr c3
          · exact Or.inl ⟨by omega, z2⟩
      · rw [if_neg c2]
        refine H2 _ _ ⟨by omega, hs, fun j j1 j2 => (hb j j1 j2).trans ⟨fun z => ⟨by omega, z.2⟩, fun z => ⟨?_, z.2⟩⟩⟩
        by_cases c3 : j = i
        · rw [c3] at z; exact absurd z.2.2 c2
        · omega
    · rw [if_neg c1]
      refine H2 _ _ ⟨by omega, hs, fun j j1 j2 => (hb j j1 j2).trans ⟨fun z => ⟨by omega, z.2⟩, fun z => ⟨?_, z.2⟩⟩⟩
      by_cases c3 : j = i
      · rw [c3] at z; exact absurd z.2.1 c1
      · omega
  · rintro s t ⟨h0, hs, hb⟩
    show G 8 4 (some (.ref 8) :: some (vI h) :: some (vI s) :: some (vI (ρ 1 1)) :: t) [] (toM ρ τ) Q
    rw [b8_4 ρ τ h s _ t hT.1 sh ⟨by omega, by omega⟩ ⟨by omega, by omega⟩, if_pos (by omega)]
    exact H s ⟨hs, hb⟩
theorem wt_0 : wtS 0 = 0 := by decide +kernel
theorem c_wig (hT : TI ρ) {g : Int} (hg : 0 ≤ g ∧ g < ρ 1 1) (hgg : ρ 46 g = g)
    (H : ∀ x w, RG1 (ρ 1 1) (ρ 46) (ρ 47) g x → (0 ≤ w ∧ w < 1024) → (∀ j, 0 ≤ j → j < 10 → (bt w j.toNat = true ↔ (j < ρ 1 1 ∧ ρ 46 j = g) ∧ ¬ bt x j.toNat = true)) → Q (some (vI w)) (toM ρ τ)) : G 7 0 [some (.ref 8), some (vI g)] [] (toM ρ τ) Q := by
  have hn : 2 ≤ ρ 1 1 ∧ ρ 1 1 ≤ 10 := hT.2 1 1
  have sg : SM g := ⟨by omega, by omega⟩
  rw [b7_0 ρ τ g hT.1 sg]
  refine lpJ (S := Int × Int) (P := fun i s t => G 7 7 (some (.ref 8) :: some (vI g) :: some (vI s.1) :: some (vI s.2) :: some (vI i) :: t) [] (toM ρ τ) Q) (inv := fun i s => 0 ≤ i ∧ (0 ≤ s.1 ∧ s.1 < 1024) ∧ (0 ≤ s.2 ∧ s.2 < 1024) ∧ (∀ j, 0 ≤ j → j < 10 → (bt s.1 j.toNat = true ↔ j < i ∧ ρ 46 j = g)) ∧ ((s.2 = 0 ∧ ∀ j, 0 ≤ j → j < i → ρ 46 j ≠ g) ∨ ((∃ h0, (0 ≤ h0 ∧ h0 < ρ 1 1) ∧ ρ 46 h0 = g ∧ AS (ρ 1 1) (ρ 46) (ρ 47) h0 s.2) ∧ ∀ h1, 0 ≤ h1 → h1 < i → ρ 46 h1 = g → sF (agF (ρ 1 1) (ρ 46) (ρ 47) h1) 10 ≤ wtS s.2))) (n := ρ 1 1) ?_ (ρ 1 1).toNat 0 (0, 0) [] (by omega) ⟨by omega, by dsimp only; omega, by dsimp only; omega, fun j j1 j2 => ⟨fun z => (by rw [bt_0] at z; cases z), fun z => by omega⟩, Or.inl ⟨rfl, fun j z1 z2 => by omega⟩⟩ ?_
  · rintro i ⟨a, r⟩ t h1 ⟨h0, ha, hr, hb, hc⟩ H2
    dsimp only at ha hr hb hc
    have si : SM i := ⟨by omega, by omega⟩
    have sa : SM a := ⟨by omega, by omega⟩
    have sr : SM r := ⟨by omega, by omega⟩
    show G 7 7 (some (.ref 8) :: some (vI g) :: some (vI a) :: some (vI r) :: some (vI i) :: t) [] (toM ρ τ) Q
    rw [b7_7 ρ τ g a r i t hT.1 sg sa sr si, if_neg (by omega), if_pos (by omega)]
    by_cases c1 : ρ 46 i = g
    · rw [if_pos c1]
      have ob := or_bit ha (i := i) (by omega)
      have e : (iI a ||| iI ((iI 1 <<< (iI i &&& 31)).toInt)).toInt = bor a (bsh i) := rfl
      rw [e]
      have sa2 : SM (bor a (bsh i)) := ⟨by omega, by omega⟩
      have hb2 : ∀ j, 0 ≤ j → j < 10 → (bt (bor a (bsh i)) j.toNat = true ↔ j < i + 1 ∧ ρ 46 j = g) := fun j j1 j2 => (ob.2 j j1 j2).trans (by
        rw [hb j j1 j2]
        constructor
        · rintro (z | z)
          · exact ⟨by omega, z.2⟩
          · rw [z]; exact ⟨by omega, c1⟩
        · rintro ⟨z1, z2⟩
          by_cases c3 : j = i
          · exact Or.inr c3
          · exact Or.inl ⟨by omega, z2⟩)
      refine c_agree hT ⟨h0, h1⟩ (fun x hx => ?_)
      have x1 := hx.1
      have sx : SM x := ⟨by omega, by omega⟩
      have p1 := pc_bd x
      have p2 := pc_bd r
      have wx := wt_eq x1
      have wr := wt_eq hr
      have xw := hx.wt
      show G 7 43 (some (.ref 8) :: some (vI g) :: some (vI (bor a (bsh i))) :: some (vI r) :: some (vI i) :: t) ((some (vI x)).toList ++ []) (toM ρ τ) Q
      rw [b7_43 ρ τ g _ r i t x hT.1 sg sa2 sr si sx, c_bc hT.1 x1, b7_50 ρ τ g _ r i x _ _ hT.1 sg sa2 sr si sx ⟨by omega, by omega⟩, c_bc hT.1 hr, b7_54 ρ τ g _ r i x _ _ _ hT.1 sg sa2 sr si sx ⟨by omega, by omega⟩ ⟨by omega, by omega⟩]
      have take : ∀ t', wtS r < wtS x → G 7 7 (some (.ref 8) :: some (vI g) :: some (vI (bor a (bsh i))) :: some (vI x) :: some (vI (i + 1)) :: t') [] (toM ρ τ) Q := fun t' z => by
        refine H2 (bor a (bsh i), x) t' ⟨by omega, ob.1, x1, hb2, Or.inr ⟨⟨i, ⟨h0, h1⟩, c1, hx⟩, fun q q1 q2 q3 => ?_⟩⟩
        dsimp only
        by_cases c3 : q = i
        · rw [c3, xw]; exact Int.le_refl _
        · rcases hc with ⟨-, y⟩ | ⟨-, y⟩
          · exact absurd q3 (y q q1 (by omega))
          · have := y q q1 (by omega) q3
            omega
      have keep : ∀ t', wtS x ≤ wtS r → G 7 7 (some (.ref 8) :: some (vI g) :: some (vI (bor a (bsh i))) :: some (vI r) :: some (vI (i + 1)) :: t') [] (toM ρ τ) Q := fun t' z => by
        refine H2 (bor a (bsh i), r) t' ⟨by omega, ob.1, hr, hb2, ?_⟩
        dsimp only
        rcases hc with ⟨y0, -⟩ | ⟨y0, y⟩
        · exfalso
          have b := (hx.2 i h0 (by omega)).mpr ⟨h1, rfl, rfl⟩
          have xp : x ≠ 0 := fun q => by rw [q, bt_0] at b; cases b
          rw [y0, wt_0] at z
          omega
        · refine Or.inr ⟨y0, fun q q1 q2 q3 => ?_⟩
          by_cases c3 : q = i
          · rw [c3, ← xw]; exact z
          · exact y q q1 (by omega) q3
      by_cases c3 : 0 < pc x - pc r
      · rw [if_pos c3]
        exact take _ (by omega)
      · rw [if_neg c3]
        by_cases c4 : pc x - pc r = 0
        · rw [if_pos c4]
          by_cases c5 : x ≤ r
          · rw [if_pos c5]
            exact keep _ (by omega)
          · rw [if_neg c5]
            exact take _ (by omega)
        · rw [if_neg c4]
          exact keep _ (by omega)
    · rw [if_neg c1]
      refine H2 (a, r) t ⟨by omega, ha, hr, fun j j1 j2 => (hb j j1 j2).trans ⟨fun z => ⟨by omega, z.2⟩, fun z => ⟨?_, z.2⟩⟩, ?_⟩
      · by_cases c3 : j = i
        · rw [c3] at z; exact absurd z.2 c1
        · omega
      · dsimp only
        rcases hc with ⟨y0, y⟩ | ⟨y0, y⟩
        · refine Or.inl ⟨y0, fun q q1 q2 => ?_⟩
          by_cases c3 : q = i
          · rw [c3]; exact c1
          · exact y q q1 (by omega)
        · refine Or.inr ⟨y0, fun q q1 q2 q3 => ?_⟩
          by_cases c3 : q = i
          · rw [c3] at q3; exact absurd q3 c1
          · exact y q q1 (by omega) q3
  · rintro ⟨a, r⟩ t ⟨h0, ha, hr, hb, hc⟩
    dsimp only at ha hr hb hc
    show G 7 7 (some (.ref 8) :: some (vI g) :: some (vI a) :: some (vI r) :: some (vI (ρ 1 1)) :: t) [] (toM ρ τ) Q
    rw [b7_7 ρ τ g a r _ t hT.1 sg ⟨by omega, by omega⟩ ⟨by omega, by omega⟩ ⟨by omega, by omega⟩, if_pos (by omega)]
    have an := an_no (a := a) (r := r) ha
    rcases hc with ⟨-, y⟩ | ⟨⟨h0, y1, y2, y3⟩, y4⟩
    · exact absurd hgg (y g hg.1 hg.2)
    · refine H r (ban a (bno r)) ⟨⟨h0, y1, y2, fun h z1 z2 => ?_⟩, y4⟩ an.1 (fun j j1 j2 => (an.2 j j1 j2).trans ?_)
      · rw [y3.2 h z1 z2, y2]
      · rw [hb j j1 j2]
theorem c_wrong {ρ0 : rm} (hT0 : TI ρ0) (hB : Bok ρ0)
    (Hn : ∀ ρ2, GM ρ0 (-2) ρ2 → (∀ h, 0 ≤ h → h < ρ0 1 1 → ρ2 46 h ≠ -1) → ¬ CON ρ0 ρ2 → Q (some (vI (-1))) (toM ρ2 τ))
    (Hy : ∀ ρ2 R W, GM ρ0 (-2) ρ2 → (∀ h, 0 ≤ h → h < ρ0 1 1 → ρ2 46 h ≠ -1) → CON ρ0 ρ2 → WR (ρ0 1 1) (ρ2 46) (ρ2 47) R W → Q (some (vI W)) (toM ρ2 τ)) : G 3 0 [some (.ref 8)] [] (toM ρ0 τ) Q := by
  have hn : 2 ≤ ρ0 1 1 ∧ ρ0 1 1 ≤ 10 := hT0.2 1 1
  have hm8 : 0 ≤ ρ0 8 0 ∧ ρ0 8 0 ≤ 10 := hT0.2 8 0
  rw [b3_0 ρ0 τ hT0.1]
  refine c_groups hT0 hB (fun ρ2 hG2 ht2 => ?_)
  have hT2 := hG2.1
  have hF2 := hG2.2.1
  have e1 : ρ2 1 1 = ρ0 1 1 := hF2 1 1 (by omega)
  have e8 : ρ2 8 0 = ρ0 8 0 := hF2 8 0 (by omega)
  show G 3 4 (some (.ref 8) :: []) ((none : Option Value).toList ++ []) (toM ρ2 τ) Q
  rw [b3_4 ρ2 τ [] hT2.1]
  refine lpJ (S := Unit) (P := fun i _ t => G 3 6 (some (.ref 8) :: some (vI i) :: t) [] (toM ρ2 τ) Q) (inv := fun i _ => 0 ≤ i ∧ ∀ k, 0 ≤ k → k < i → (ρ2 47 (ρ0 43 k) - ρ2 47 (ρ0 44 k)) % 1440 = ρ0 45 k) (n := ρ0 8 0) ?_ (ρ0 8 0).toNat 0 () _ (by omega) ⟨by omega, fun k z1 z2 => by omega⟩ ?_
  · rintro i s t h1 ⟨h0, hc⟩ H2
    have si : SM i := ⟨by omega, by omega⟩
    have b := hB i h0 h1
    have r1 : 0 ≤ ρ2 47 (ρ0 43 i) ∧ ρ2 47 (ρ0 43 i) ≤ 1439 := hT2.2 47 _
    have r2 : 0 ≤ ρ2 47 (ρ0 44 i) ∧ ρ2 47 (ρ0 44 i) ≤ 1439 := hT2.2 47 _
    show G 3 6 (some (.ref 8) :: some (vI i) :: t) [] (toM ρ2 τ) Q
    rw [b3_6 ρ2 τ i t hT2.1 si, if_neg (by omega), if_pos (by omega), hF2 43 i (by omega), hF2 44 i (by omega), if_pos (by omega), if_pos (by omega), if_pos (by omega), c_fmod hT2.1 ⟨by omega, by omega⟩, b3_43 ρ2 τ i t _ hT2.1 si ⟨by omega, by omega⟩, if_pos (by omega), hF2 45 i (by omega)]
    by_cases c : (ρ2 47 (ρ0 43 i) - ρ2 47 (ρ0 44 i)) % 1440 = ρ0 45 i
    · rw [if_pos c]
      refine H2 () _ ⟨by omega, fun k k1 k2 => ?_⟩
      by_cases c2 : k = i
      · rw [c2]; exact c
      · exact hc k k1 (by omega)
    · rw [if_neg c]
      exact Hn ρ2 hG2 ht2 (fun z => c (z i h0 h1))
  · rintro s t ⟨h0, hc⟩
    show G 3 6 (some (.ref 8) :: some (vI (ρ0 8 0)) :: t) [] (toM ρ2 τ) Q
    rw [b3_6 ρ2 τ _ t hT2.1 ⟨by omega, by omega⟩, if_pos (by omega)]
    have lbl : ∀ h, 0 ≤ h → h < ρ0 1 1 → (0 ≤ ρ2 46 h ∧ ρ2 46 h < ρ0 1 1) ∧ ρ2 46 (ρ2 46 h) = ρ2 46 h := fun h z1 z2 => (hG2.2.2.1 h z1 z2).resolve_left (ht2 h z1 z2)
    refine lpJ (S := Int) (P := fun i s t => G 3 64 (some (.ref 8) :: some (vI s) :: some (vI i) :: t) [] (toM ρ2 τ) Q) (inv := fun i s => 0 ≤ i ∧ (0 ≤ s ∧ s < 1024) ∧ ∃ R : Int → Int, (∀ g, 0 ≤ g → g < i → ρ2 46 g = g → RG1 (ρ0 1 1) (ρ2 46) (ρ2 47) g (R g)) ∧ ∀ j, 0 ≤ j → j < 10 → (bt s j.toNat = true ↔ j < ρ0 1 1 ∧ ρ2 46 j < i ∧ ¬ bt (R (ρ2 46 j)) j.toNat = true)) (n := ρ0 1 1) ?_ (ρ0 1 1).toNat 0 0 _ (by omega) ⟨by omega, by omega, fun _ => 0, fun g z1 z2 => by omega, fun j j1 j2 => ⟨fun z => (by rw [bt_0] at z; cases z), fun z => by have := (lbl j j1 z.1).1.1; omega⟩⟩ ?_
    · rintro i s t z1 ⟨z0, hs, R, hR, hb⟩ H2
      have si : SM i := ⟨by omega, by omega⟩
      have ss : SM s := ⟨by omega, by omega⟩
      show G 3 64 (some (.ref 8) :: some (vI s) :: some (vI i) :: t) [] (toM ρ2 τ) Q
      rw [b3_64 ρ2 τ s i t hT2.1 ss si, if_neg (by omega), if_pos (by omega)]
      by_cases c : ρ2 46 i = i
      · rw [if_pos c]
        refine c_wig hT2 (by omega) c (fun x w hx hw hwb => ?_)
        rw [e1] at hx hwb
        show G 3 91 (some (.ref 8) :: some (vI s) :: some (vI i) :: t) ((some (vI w)).toList ++ [vI s]) (toM ρ2 τ) Q
        rw [b3_91 ρ2 τ s i t s w hT2.1 ss si ss ⟨by omega, by omega⟩]
        refine H2 (bor s w) _ ⟨by omega, or_or hs hw, up1 R i x, fun g g1 g2 g3 => ?_, fun j j1 j2 => ?_⟩
        · by_cases c2 : g = i
          · rw [c2, up1_s]; exact hx
          · rw [up1_n _ _ c2]; exact hR g g1 (by omega) g3
        · rw [bt_or, Bool.or_eq_true, hb j j1 j2, hwb j j1 j2]
          by_cases c2 : ρ2 46 j = i
          · rw [c2, up1_s]
            constructor
            · rintro (y | y)
              · omega
              · exact ⟨y.1.1, by omega, y.2⟩
            · rintro ⟨y1, y2, y3⟩
              exact Or.inr ⟨⟨y1, rfl⟩, y3⟩
          · rw [up1_n _ _ c2]
            constructor
            · rintro (y | y)
              · exact ⟨y.1, by omega, y.2.2⟩
              · exact absurd y.1.2 c2
            · rintro ⟨y1, y2, y3⟩
              exact Or.inl ⟨y1, by omega, y3⟩
      · rw [if_neg c]
        refine H2 s _ ⟨by omega, hs, R, fun g g1 g2 g3 => ?_, fun j j1 j2 => ?_⟩
        · by_cases c2 : g = i
          · rw [c2] at g3; exact absurd g3 c
          · exact hR g g1 (by omega) g3
        · rw [hb j j1 j2]
          constructor
          · rintro ⟨y1, y2, y3⟩
            exact ⟨y1, by omega, y3⟩
          · rintro ⟨y1, y2, y3⟩
            refine ⟨y1, ?_, y3⟩
            by_cases c2 : ρ2 46 j = i
            · have := (lbl j j1 y1).2
              rw [c2] at this
              exact absurd this c
            · omega
    · rintro s t ⟨z0, hs, R, hR, hb⟩
      show G 3 64 (some (.ref 8) :: some (vI s) :: some (vI (ρ0 1 1)) :: t) [] (toM ρ2 τ) Q
      rw [b3_64 ρ2 τ s _ t hT2.1 ⟨by omega, by omega⟩ ⟨by omega, by omega⟩, if_pos (by omega)]
      refine Hy ρ2 R s hG2 ht2 hc ⟨hs, fun h y1 y2 => (hb h y1 y2).trans ⟨fun z => ⟨z.1, z.2.2⟩, fun z => ⟨z.1, (lbl h y1 z.1).1.2, z.2⟩⟩, fun g g1 g2 g3 => hR g g1 g2 g3⟩
end WC
