/-! the small machine's memory as the machine's cells -/
def rv (ad : Nat → Nat) (fm : Value) (k : Nat) : Value := if k = 1200 then fm else .ref (ad k)
def tr (ad : Nat → Nat) (fm : Value) : Value → Value
  | .ref k => rv ad fm k
  | v => v
def slV (ad : Nat → Nat) (μ : mm) (k j : Nat) : Nat → Value
  | 0 => .int (μ.1 k j)
  | 1 => .long μ.2
  | r + 2 => .ref (ad r)
def slVs (ad : Nat → Nat) (μ : mm) (k : Nat) : Nat → List Nat → List Value
  | _, [] => []
  | j, x :: t => slV ad μ k j x :: slVs ad μ k (j + 1) t
def cE (cI cZ cG : ClassId) (ad : Nat → Nat) (μ : mm) (k : Nat) (c : Nat × Nat × List Nat) : va_E :=
  if c.1 = 100 then .inl (cI, c.2.1, .inl (μ.1 k)) else if c.1 = 101 then .inl (cZ, c.2.1, .inl (μ.1 k))
  else if c.1 = 102 then .inl (cG, c.2.1, .inr (.inr (.inr (.inr (fun j => (c.2.2[j]?).map ad))))) else .inr (c.1, slVs ad μ k 0 c.2.2)
def wl (cI cZ cG : ClassId) (ad : Nat → Nat) (μ : mm) : Nat → List (Nat × Nat × List Nat) → va_W
  | _, [] => []
  | k, c :: t => (ad k, cE cI cZ cG ad μ k c) :: wl cI cZ cG ad μ (k + 1) t
abbrev wd (sh : List (Nat × Nat × List Nat)) (cI cZ cG : ClassId) (ad : Nat → Nat) (μ : mm) : va_W := wl cI cZ cG ad μ 0 sh
theorem slVs_get (ad : Nat → Nat) (μ : mm) (k : Nat) : ∀ (l : List Nat) (j i : Nat), (slVs ad μ k j l)[i]? = (l[i]?).map (slV ad μ k (j + i))
  | [], j, i => by simp [slVs]
  | x :: t, j, 0 => by simp [slVs]
  | x :: t, j, i + 1 => by
    simp only [slVs, List.getElem?_cons_succ]
    rw [slVs_get ad μ k t (j + 1) i, show j + 1 + i = j + (i + 1) by omega]
theorem slVs_len (ad : Nat → Nat) (μ : mm) (k : Nat) : ∀ (l : List Nat) (j : Nat), (slVs ad μ k j l).length = l.length
  | [], j => rfl
  | x :: t, j => by simp [slVs, slVs_len ad μ k t (j + 1)]
theorem wl_get (cI cZ cG : ClassId) (ad : Nat → Nat) (μ : mm) : ∀ (l : List (Nat × Nat × List Nat)) (k i : Nat), (wl cI cZ cG ad μ k l)[i]? = (l[i]?).map (fun c => (ad (k + i), cE cI cZ cG ad μ (k + i) c))
  | [], k, i => by simp [wl]
  | x :: t, k, 0 => by simp [wl]
  | x :: t, k, i + 1 => by
    simp only [wl, List.getElem?_cons_succ]
    rw [wl_get cI cZ cG ad μ t (k + 1) i, show k + 1 + i = k + (i + 1) by omega]
theorem wd_get {sh : List (Nat × Nat × List Nat)} (cI cZ cG : ClassId) (ad : Nat → Nat) (μ : mm) {k : Nat} {c : Nat × Nat × List Nat} (h : sh[k]? = some c) : (wd sh cI cZ cG ad μ)[k]? = some (ad k, cE cI cZ cG ad μ k c) := by
  rw [wl_get, h]
  simp
theorem wd_inv {sh : List (Nat × Nat × List Nat)} {cI cZ cG : ClassId} {ad : Nat → Nat} {μ : mm} {k : Nat} {q : Nat × va_E} (h : (wd sh cI cZ cG ad μ)[k]? = some q) : ∃ c, sh[k]? = some c ∧ q = (ad k, cE cI cZ cG ad μ k c) := by
  rw [wl_get] at h
  obtain ⟨c, h1, h2⟩ := Option.map_eq_some_iff.mp h
  exact ⟨c, h1, by rw [← h2]; simp⟩
theorem wd_set {sh : List (Nat × Nat × List Nat)} {cI cZ cG : ClassId} {ad : Nat → Nat} {μ μ' : mm} {k : Nat} {c : Nat × Nat × List Nat} {e : va_E} (h : sh[k]? = some c) (he : cE cI cZ cG ad μ' k c = e) (ho : ∀ i d, sh[i]? = some d → i ≠ k → cE cI cZ cG ad μ' i d = cE cI cZ cG ad μ i d) :
    (wd sh cI cZ cG ad μ).set k (ad k, e) = wd sh cI cZ cG ad μ' := by
  apply List.ext_getElem?
  intro i
  by_cases hi : i = k
  · subst hi
    rw [List.getElem?_set_self (by have := wd_get cI cZ cG ad μ h; exact (List.getElem?_eq_some_iff.mp this).1), wd_get cI cZ cG ad μ' h, he]
  · rw [List.getElem?_set_ne (Ne.symm hi), wl_get, wl_get]
    cases hs : sh[i]? with
    | none => rfl
    | some d => simp [ho i d hs hi]
theorem slVs_mup (ad : Nat → Nat) (μ : mm) {k i : Nat} (j : Nat) (x : Int32) (h : i ≠ k) : ∀ (l : List Nat) (n : Nat), slVs ad (mup μ k j x) i n l = slVs ad μ i n l
  | [], n => rfl
  | 0 :: t, n => by simp only [slVs, slV, slVs_mup ad μ j x h t (n + 1)]; simp [mup, h]
  | 1 :: t, n => by simp only [slVs, slV, slVs_mup ad μ j x h t (n + 1)]; simp [mup]
  | (r + 2) :: t, n => by simp only [slVs, slV, slVs_mup ad μ j x h t (n + 1)]
theorem cE_mup (cI cZ cG : ClassId) (ad : Nat → Nat) (μ : mm) {k i : Nat} (j : Nat) (x : Int32) (h : i ≠ k) (c : Nat × Nat × List Nat) : cE cI cZ cG ad (mup μ k j x) i c = cE cI cZ cG ad μ i c := by
  have h1 : (mup μ k j x).1 i = μ.1 i := by simp [mup, h]
  unfold cE
  rw [h1, slVs_mup ad μ j x h]
theorem slVs_long (ad : Nat → Nat) (μ : mm) (x : Int64) (i : Nat) : ∀ (l : List Nat) (n : Nat), 1 ∉ l → slVs ad (μ.1, x) i n l = slVs ad μ i n l
  | [], n, _ => rfl
  | 0 :: t, n, h => by simp only [slVs, slV, slVs_long ad μ x i t (n + 1) (fun q => h (List.mem_cons_of_mem _ q))]
  | 1 :: t, n, h => absurd (List.mem_cons_self) h
  | (r + 2) :: t, n, h => by simp only [slVs, slV, slVs_long ad μ x i t (n + 1) (fun q => h (List.mem_cons_of_mem _ q))]
theorem cE_long (cI cZ cG : ClassId) (ad : Nat → Nat) (μ : mm) (x : Int64) (i : Nat) (c : Nat × Nat × List Nat) (h : 1 ∉ c.2.2) : cE cI cZ cG ad (μ.1, x) i c = cE cI cZ cG ad μ i c := by
  unfold cE
  rw [slVs_long ad μ x i _ _ h]
/-- only one cell holds the long, and only once -/
def lgs (sh : List (Nat × Nat × List Nat)) : List (Nat × Nat) := (List.range sh.length).flatMap (fun i => (List.range (sh.getD i (0, 0, [])).2.2.length).filterMap (fun j => if (sh.getD i (0, 0, [])).2.2[j]? = some 1 then some (i, j) else none))
def lgk (sh : List (Nat × Nat × List Nat)) : Bool := decide ((lgs sh).length ≤ 1)
theorem lgs_in {sh : List (Nat × Nat × List Nat)} {i j : Nat} {c : Nat × Nat × List Nat} (h : sh[i]? = some c) (hj : c.2.2[j]? = some 1) : (i, j) ∈ lgs sh := by
  have hg : sh.getD i (0, 0, []) = c := by rw [List.getD_eq_getElem?_getD, h]; rfl
  refine List.mem_flatMap.mpr ⟨i, List.mem_range.mpr (List.getElem?_eq_some_iff.mp h).1, List.mem_filterMap.mpr ⟨j, List.mem_range.mpr ?_, ?_⟩⟩
  · rw [hg]; exact (List.getElem?_eq_some_iff.mp hj).1
  · rw [hg, if_pos hj]
theorem lgk_one {sh : List (Nat × Nat × List Nat)} (hk : lgk sh = true) {i j i' j' : Nat} {c c' : Nat × Nat × List Nat} (h : sh[i]? = some c) (hj : c.2.2[j]? = some 1) (h' : sh[i']? = some c') (hj' : c'.2.2[j']? = some 1) : i = i' ∧ j = j' := by
  have a := lgs_in h hj
  have b := lgs_in h' hj'
  have hl : (lgs sh).length ≤ 1 := of_decide_eq_true hk
  match hq : lgs sh, a, b, hl with
  | [], a, b, hl => cases a
  | [x], a, b, hl =>
    have e1 := List.mem_singleton.mp a
    have e2 := List.mem_singleton.mp b
    rw [← e2] at e1
    cases e1
    exact ⟨rfl, rfl⟩
  | x :: x' :: t, a, b, hl => simp at hl
theorem slVs_set (ad : Nat → Nat) (μ : mm) (k : Nat) (x : Int32) : ∀ (l : List Nat) (n i : Nat), l[i]? = some 0 → (slVs ad μ k n l).set i (.int x) = slVs ad (mup μ k (n + i) x) k n l := by
  intro l n i h
  apply List.ext_getElem?
  intro a
  by_cases ha : a = i
  · subst ha
    rw [List.getElem?_set_self (by rw [slVs_len]; exact (List.getElem?_eq_some_iff.mp h).1), slVs_get, h]
    simp [slV, mup, upd]
  · rw [List.getElem?_set_ne (Ne.symm ha), slVs_get, slVs_get]
    cases hs : l[a]? with
    | none => rfl
    | some d =>
      match d with
      | 0 => simp [slV, mup, upd, ha]
      | 1 => simp [slV, mup]
      | r + 2 => rfl
theorem slVs_setL (ad : Nat → Nat) (μ : mm) (k : Nat) (x : Int64) (l : List Nat) (i : Nat) (h : l[i]? = some 1) (key : ∀ a, l[a]? = some 1 → a = i) : (slVs ad μ k 0 l).set i (.long x) = slVs ad (μ.1, x) k 0 l := by
  apply List.ext_getElem?
  intro a
  by_cases ha : a = i
  · subst ha
    rw [List.getElem?_set_self (by rw [slVs_len]; exact (List.getElem?_eq_some_iff.mp h).1), slVs_get, h]
    simp [slV]
  · rw [List.getElem?_set_ne (Ne.symm ha), slVs_get, slVs_get]
    cases hs : l[a]? with
    | none => rfl
    | some d =>
      match d with
      | 0 => rfl
      | 1 => exact absurd (key a hs) ha
      | r + 2 => rfl
/-! locals -/
def LV (ad : Nat → Nat) (fm : Value) (y : Nat) (ls : Array Slot) (lv : List (Option Value)) : Prop := ls.size = mL y ∧ lv_wf ls ∧ ∀ (i : Nat) (v : Value), lv[i]? = some (some v) → ls[i]? = some (Slot.val (tr ad fm v))
def asc (ad : Nat → Nat) (fm : Value) : Nat → List (Option Value) → List (Nat × Value)
  | _, [] => []
  | i, none :: t => asc ad fm (i + 1) t
  | i, some v :: t => (i, tr ad fm v) :: asc ad fm (i + 1) t
theorem asc_of (ad : Nat → Nat) (fm : Value) : ∀ (l : List (Option Value)) (i : Nat) (q : Nat × Value), q ∈ asc ad fm i l → ∃ j v, q = (i + j, tr ad fm v) ∧ l[j]? = some (some v)
  | [], i, q, h => absurd h List.not_mem_nil
  | none :: t, i, q, h => by
    obtain ⟨j, v, h1, h2⟩ := asc_of ad fm t (i + 1) q h
    exact ⟨j + 1, v, by rw [h1]; congr 1; omega, by simpa using h2⟩
  | some v :: t, i, q, h => by
    rcases List.mem_cons.mp h with h | h
    · exact ⟨0, v, h, rfl⟩
    · obtain ⟨j, v, h1, h2⟩ := asc_of ad fm t (i + 1) q h
      exact ⟨j + 1, v, by rw [h1]; congr 1; omega, by simpa using h2⟩
theorem asc_in (ad : Nat → Nat) (fm : Value) : ∀ (l : List (Option Value)) (i j : Nat) (v : Value), l[j]? = some (some v) → (i + j, tr ad fm v) ∈ asc ad fm i l
  | [], i, j, v, h => by simp at h
  | none :: t, i, 0, v, h => by simp at h
  | none :: t, i, j + 1, v, h => by
    have := asc_in ad fm t (i + 1) j v (by simpa using h)
    rw [show i + (j + 1) = i + 1 + j by omega]
    exact this
  | some w :: t, i, 0, v, h => by
    simp only [List.getElem?_cons_zero, Option.some.injEq] at h
    subst h
    exact List.mem_cons_self
  | some w :: t, i, j + 1, v, h => by
    have := asc_in ad fm t (i + 1) j v (by simpa using h)
    rw [show i + (j + 1) = i + 1 + j by omega]
    exact List.mem_cons_of_mem _ this
theorem LV.has {ad : Nat → Nat} {fm : Value} {y : Nat} {ls : Array Slot} {lv : List (Option Value)} (h : LV ad fm y ls lv) : lv_has ls (mL y) (asc ad fm 0 lv) := by
  refine ⟨h.1, h.2.1, fun q hq => ?_⟩
  obtain ⟨j, v, rfl, h2⟩ := asc_of ad fm lv 0 q hq
  simpa using h.2.2 j v h2
theorem sl_get : ∀ (i : Nat) (v : Option Value) (t : List (Option Value)) (j : Nat) (w : Value), (sl i v t)[j]? = some (some w) → (j = i ∧ v = some w) ∨ (j ≠ i ∧ t[j]? = some (some w))
  | 0, v, t, 0, w, h => by
    simp only [sl, List.getElem?_cons_zero, Option.some.injEq] at h
    exact Or.inl ⟨rfl, h⟩
  | 0, v, t, j + 1, w, h => by
    refine Or.inr ⟨by omega, ?_⟩
    simp only [sl, List.getElem?_cons_succ] at h
    cases t with
    | nil => simp at h
    | cons x t => simpa using h
  | n + 1, v, [], 0, w, h => by simp [sl] at h
  | n + 1, v, [], j + 1, w, h => by
    simp only [sl, List.getElem?_cons_succ] at h
    rcases sl_get n v [] j w h with ⟨h1, h2⟩ | ⟨h1, h2⟩
    · exact Or.inl ⟨by omega, h2⟩
    · simp at h2
  | n + 1, v, x :: t, 0, w, h => by
    refine Or.inr ⟨by omega, ?_⟩
    simpa [sl] using h
  | n + 1, v, x :: t, j + 1, w, h => by
    simp only [sl, List.getElem?_cons_succ] at h
    rcases sl_get n v t j w h with ⟨h1, h2⟩ | ⟨h1, h2⟩
    · exact Or.inl ⟨by omega, h2⟩
    · exact Or.inr ⟨by omega, by simpa using h2⟩
theorem tr_cat {ad : Nat → Nat} {fm : Value} (hf : fm.category = 1) (v : Value) : (tr ad fm v).category = v.category := by
  cases v <;> simp only [tr]
  unfold rv
  split
  · exact hf
  · rfl
theorem LV.sto {ad : Nat → Nat} {fm : Value} {y : Nat} {ls' : Array Slot} {lv : List (Option Value)} {i : Nat} {x : Int32} (hf : fm.category = 1) (hn : nolong i lv = true) (h : lv_has ls' (mL y) ((i, Value.int x) :: (asc ad fm 0 lv).filter (fun q => !(q.1 == i) && !(q.1 + 1 == i && q.2.category == 2)))) : LV ad fm y ls' (sl i (some (.int x)) lv) := by
  refine ⟨h.1, h.2.1, fun j v hj => ?_⟩
  rcases sl_get i _ lv j v hj with ⟨rfl, h2⟩ | ⟨h1, h2⟩
  · cases h2
    exact h.2.2 (j, .int x) List.mem_cons_self
  · refine h.2.2 (j, tr ad fm v) (List.mem_cons_of_mem _ (List.mem_filter.mpr ⟨by simpa using asc_in ad fm lv 0 j v h2, ?_⟩))
    simp only [Bool.and_eq_true, Bool.not_eq_true', beq_eq_false_iff_ne, ne_eq, Bool.and_eq_false_iff]
    refine ⟨h1, ?_⟩
    by_cases hji : j + 1 = i
    · right
      subst hji
      simp only [nolong, h2] at hn
      rw [tr_cat hf]
      cases v <;> simp_all [Value.category]
    · left; exact hji
