/-! all lines (wip/gen/gen_all78.py) -/
def rdA (T : Int → Int) (n : Int) : Nat → Int → Int → Int → Int → Int → Int ⊕ List (Int × (Int → Int))
  | 0, _, _, _, _, p => .inl (p - 1)
  | f + 1, h, w, d, s, p =>
    match rdL T n h w d s p with
    | .inl x => .inl x
    | .inr (k, p', N) =>
      if tkK T n (tkS T n p') = 0 then .inr [(k, N)]
      else if tkK T n (tkS T n p') = 3 then
        match rdA T n f (nh k (N 0) h) (nw k w) (nd k d) (ns k s) (tkE T n (tkS T n p')) with
        | .inl x => .inl x
        | .inr L => .inr ((k, N) :: L)
      else .inl (tkS T n p')
section RA
variable {T : Int → Int} {n h w d s p : Int}
theorem rdA_1 {f : Nat} {x : Int} (e : rdL T n h w d s p = .inl x) : rdA T n (f + 1) h w d s p = .inl x := by
  unfold rdA; rw [e]
theorem rdA_2 {f : Nat} {k p' : Int} {N : Int → Int} (e : rdL T n h w d s p = .inr (k, p', N)) (c : tkK T n (tkS T n p') = 0) : rdA T n (f + 1) h w d s p = .inr [(k, N)] := by
  unfold rdA; rw [e]; exact if_pos c
theorem rdA_3 {f : Nat} {k p' : Int} {N : Int → Int} (e : rdL T n h w d s p = .inr (k, p', N)) (c : tkK T n (tkS T n p') = 3) : rdA T n (f + 1) h w d s p = match rdA T n f (nh k (N 0) h) (nw k w) (nd k d) (ns k s) (tkE T n (tkS T n p')) with
    | .inl x => .inl x
    | .inr L => .inr ((k, N) :: L) := by
  rw [rdA, e]; exact (if_neg (by rw [c]; decide)).trans (if_pos c)
theorem rdA_4 {f : Nat} {k p' : Int} {N : Int → Int} (e : rdL T n h w d s p = .inr (k, p', N)) (c : ¬ tkK T n (tkS T n p') = 0) (c2 : ¬ tkK T n (tkS T n p') = 3) : rdA T n (f + 1) h w d s p = .inl (tkS T n p') := by
  rw [rdA, e]; exact (if_neg c).trans (if_neg c2)
theorem rdN_f {k : Int} : ∀ (q : Nat) (i p : Int) (N : Int → Int) (f : Int), p ≤ n → rdN T n k h q i p N = .inl f → p ≤ f ∧ f ≤ n
  | 0, i, p, N, f, hp, e => by cases e
  | q + 1, i, p, N, f, hp, e => by
    have b1 := tkS_bd (T := T) hp
    have b2 := tkE_bd (T := T) b1.2
    unfold rdN at e
    split at e
    · have := rdN_f q (i + 1) _ _ f b2.2 e
      omega
    · cases e
      exact b1
theorem rdL_f {f : Int} (hp : p ≤ n) (e : rdL T n h w d s p = .inl f) : p ≤ f ∧ f ≤ n := by
  have b1 := tkS_bd (T := T) hp
  have b2 := tkE_bd (T := T) b1.2
  unfold rdL at e
  split at e
  · cases e
    exact b1
  · split at e
    · rename_i x hx
      cases e
      have := rdN_f _ _ _ _ _ b2.2 hx
      omega
    · cases e
theorem rdL_ok {k p' : Int} {N : Int → Int} (hp : p ≤ n) (e : rdL T n h w d s p = .inr (k, p', N)) : (p ≤ p' ∧ p' ≤ n) ∧ (1 ≤ k ∧ k ≤ 7) ∧ ¬ fuL k w d s ∧ PN k h N (nOf k) := by
  have b1 := tkS_bd (T := T) hp
  have b2 := tkE_bd (T := T) b1.2
  have kr := kdT_rg T n (tkS T n p)
  have hn := nOf_rg (kdT T n (tkS T n p))
  unfold rdL at e
  split at e
  · cases e
  · rename_i c
    split at e
    · cases e
    · rename_i p1 N1 hx
      cases e
      have := rdN_ok _ _ _ _ _ _ (by omega) b2.2 (fun j j1 j2 => by omega) hx
      rw [show (0 : Int) + (((nOf (kdT T n (tkS T n p))).toNat : Nat) : Int) = nOf (kdT T n (tkS T n p)) by omega] at this
      exact ⟨⟨by omega, this.2.2⟩, ⟨by omega, by omega⟩, fun z => c (Or.inr z), this.1⟩
end RA
/-- lines that can stand behind each other -/
def VL : Int → Int → Int → Int → List (Int × (Int → Int)) → Prop
  | _, _, _, _, [] => True
  | h, w, d, s, (k, N) :: t => (1 ≤ k ∧ k ≤ 7) ∧ ¬ fuL k w d s ∧ PN k h N (nOf k) ∧ VL (nh k (N 0) h) (nw k w) (nd k d) (ns k s) t
theorem rdA_ok {T : Int → Int} {n : Int} : ∀ (f : Nat) (h w d s p : Int) (L : List (Int × (Int → Int))), p ≤ n → rdA T n f h w d s p = .inr L → VL h w d s L ∧ L.length ≤ f
  | 0, h, w, d, s, p, L, hp, e => by cases e
  | f + 1, h, w, d, s, p, L, hp, e => by
    cases e1 : rdL T n h w d s p with
    | inl x =>
      rw [rdA_1 e1] at e
      cases e
    | inr q =>
      obtain ⟨k, p', N⟩ := q
      have ok := rdL_ok hp e1
      have b1 := tkS_bd (T := T) ok.1.2
      have b2 := tkE_bd (T := T) b1.2
      by_cases c : tkK T n (tkS T n p') = 0
      · rw [rdA_2 e1 c] at e
        cases e
        exact ⟨⟨ok.2.1, ok.2.2.1, ok.2.2.2, trivial⟩, by simp⟩
      · by_cases c2 : tkK T n (tkS T n p') = 3
        · rw [rdA_3 e1 c2] at e
          cases e2 : rdA T n f (nh k (N 0) h) (nw k w) (nd k d) (ns k s) (tkE T n (tkS T n p')) with
          | inl x => rw [e2] at e; cases e
          | inr L2 =>
            rw [e2] at e
            cases e
            have := rdA_ok f _ _ _ _ _ L2 b2.2 e2
            exact ⟨⟨ok.2.1, ok.2.2.1, ok.2.2.2, this.1⟩, by simpa using this.2⟩
        · rw [rdA_4 e1 c c2] at e
          cases e
/-! only the text counts -/
theorem ite_cg {α : Type} {b c : Prop} {i1 : Decidable b} {i2 : Decidable c} {x y u v : α} (h : b ↔ c) (h1 : x = u) (h2 : y = v) : @ite α b i1 x y = @ite α c i2 u v := by
  subst h1 h2
  by_cases z : c
  · rw [if_pos z, if_pos (h.mpr z)]
  · rw [if_neg z, if_neg (fun q => z (h.mp q))]
section CG
variable {T U : Int → Int} {n : Int}
theorem rn_cg {P : Int → Prop} [DecidablePred P] {T U : Int → Int} {n : Int} (hU : ∀ j, 0 ≤ j → j < n → T j = U j) : ∀ (q : Nat) (p : Int), 0 ≤ p → p + q ≤ n → rn P T q p = rn P U q p
  | 0, p, _, _ => rfl
  | q + 1, p, h1, h2 => by
    show (if P (T p) then rn P T q (p + 1) else p) = (if P (U p) then rn P U q (p + 1) else p)
    rw [hU p h1 (by omega), rn_cg hU q (p + 1) (by omega) (by omega)]
theorem ru_cg {P : Int → Prop} [DecidablePred P] {T U : Int → Int} {n : Int} (hU : ∀ j, 0 ≤ j → j < n → T j = U j) {p : Int} (h1 : 0 ≤ p) (h2 : p ≤ n) : ru P T n p = ru P U n p := rn_cg hU _ p h1 (by omega)
theorem tkS_cg (hU : ∀ j, 0 ≤ j → j < n → T j = U j) {p : Int} (h1 : 0 ≤ p) (h2 : p ≤ n) : tkS T n p = tkS U n p := ru_cg hU h1 h2
theorem tkE_cg (hU : ∀ j, 0 ≤ j → j < n → T j = U j) {s : Int} (h1 : 0 ≤ s) (h2 : s ≤ n) : tkE T n s = tkE U n s := by
  unfold tkE
  by_cases c : n ≤ s
  · rw [if_pos c, if_pos c]
  · rw [if_neg c, if_neg c, hU s h1 (by omega), ru_cg hU h1 h2, ru_cg hU h1 h2]
theorem tkK_cg (hU : ∀ j, 0 ≤ j → j < n → T j = U j) {s : Int} (h1 : 0 ≤ s) : tkK T n s = tkK U n s := by
  unfold tkK
  by_cases c : n ≤ s
  · rw [if_pos c, if_pos c]
  · rw [if_neg c, if_neg c, hU s h1 (by omega)]
theorem cv_cg (hU : ∀ j, 0 ≤ j → j < n → T j = U j) {s : Int} (h1 : 0 ≤ s) : ∀ (k : Nat), s + k ≤ n → cv T s k = cv U s k
  | 0, _ => rfl
  | k + 1, h2 => by
    show (if k < 4 then cv T s k * 10 + T (s + k) - 48 else -1) = (if k < 4 then cv U s k * 10 + U (s + k) - 48 else -1)
    rw [hU (s + k) (by omega) (by omega), cv_cg hU h1 k (by omega)]
theorem tkV_cg (hU : ∀ j, 0 ≤ j → j < n → T j = U j) {s : Int} (h1 : 0 ≤ s) (h2 : s ≤ n) : tkV T n s = tkV U n s := by
  have b := tkE_bd (T := U) h2
  unfold tkV
  rw [tkE_cg hU h1 h2]
  exact cv_cg hU h1 _ (by omega)
theorem wdK_cg (hU : ∀ j, 0 ≤ j → j < n → T j = U j) {s m : Int} (h1 : 0 ≤ s) (h2 : s + m ≤ n) : wdK T s m = wdK U s m := by
  have e0 : q_w0 T s m ↔ q_w0 U s m := ⟨fun ⟨z, a0, a1, a2, a3, a4, a5⟩ => ⟨z, (hU (s + 0) (by omega) (by omega)).symm.trans a0, (hU (s + 1) (by omega) (by omega)).symm.trans a1, (hU (s + 2) (by omega) (by omega)).symm.trans a2, (hU (s + 3) (by omega) (by omega)).symm.trans a3, (hU (s + 4) (by omega) (by omega)).symm.trans a4, (hU (s + 5) (by omega) (by omega)).symm.trans a5⟩, fun ⟨z, a0, a1, a2, a3, a4, a5⟩ => ⟨z, (hU (s + 0) (by omega) (by omega)).trans a0, (hU (s + 1) (by omega) (by omega)).trans a1, (hU (s + 2) (by omega) (by omega)).trans a2, (hU (s + 3) (by omega) (by omega)).trans a3, (hU (s + 4) (by omega) (by omega)).trans a4, (hU (s + 5) (by omega) (by omega)).trans a5⟩⟩
  have e1 : q_w1 T s m ↔ q_w1 U s m := ⟨fun ⟨z, a0, a1, a2, a3, a4, a5⟩ => ⟨z, (hU (s + 0) (by omega) (by omega)).symm.trans a0, (hU (s + 1) (by omega) (by omega)).symm.trans a1, (hU (s + 2) (by omega) (by omega)).symm.trans a2, (hU (s + 3) (by omega) (by omega)).symm.trans a3, (hU (s + 4) (by omega) (by omega)).symm.trans a4, (hU (s + 5) (by omega) (by omega)).symm.trans a5⟩, fun ⟨z, a0, a1, a2, a3, a4, a5⟩ => ⟨z, (hU (s + 0) (by omega) (by omega)).trans a0, (hU (s + 1) (by omega) (by omega)).trans a1, (hU (s + 2) (by omega) (by omega)).trans a2, (hU (s + 3) (by omega) (by omega)).trans a3, (hU (s + 4) (by omega) (by omega)).trans a4, (hU (s + 5) (by omega) (by omega)).trans a5⟩⟩
  have e2 : q_w2 T s m ↔ q_w2 U s m := ⟨fun ⟨z, a0, a1, a2⟩ => ⟨z, (hU (s + 0) (by omega) (by omega)).symm.trans a0, (hU (s + 1) (by omega) (by omega)).symm.trans a1, (hU (s + 2) (by omega) (by omega)).symm.trans a2⟩, fun ⟨z, a0, a1, a2⟩ => ⟨z, (hU (s + 0) (by omega) (by omega)).trans a0, (hU (s + 1) (by omega) (by omega)).trans a1, (hU (s + 2) (by omega) (by omega)).trans a2⟩⟩
  have e3 : q_w3 T s m ↔ q_w3 U s m := ⟨fun ⟨z, a0, a1, a2, a3⟩ => ⟨z, (hU (s + 0) (by omega) (by omega)).symm.trans a0, (hU (s + 1) (by omega) (by omega)).symm.trans a1, (hU (s + 2) (by omega) (by omega)).symm.trans a2, (hU (s + 3) (by omega) (by omega)).symm.trans a3⟩, fun ⟨z, a0, a1, a2, a3⟩ => ⟨z, (hU (s + 0) (by omega) (by omega)).trans a0, (hU (s + 1) (by omega) (by omega)).trans a1, (hU (s + 2) (by omega) (by omega)).trans a2, (hU (s + 3) (by omega) (by omega)).trans a3⟩⟩
  have e4 : q_w4 T s m ↔ q_w4 U s m := ⟨fun ⟨z, a0, a1, a2, a3⟩ => ⟨z, (hU (s + 0) (by omega) (by omega)).symm.trans a0, (hU (s + 1) (by omega) (by omega)).symm.trans a1, (hU (s + 2) (by omega) (by omega)).symm.trans a2, (hU (s + 3) (by omega) (by omega)).symm.trans a3⟩, fun ⟨z, a0, a1, a2, a3⟩ => ⟨z, (hU (s + 0) (by omega) (by omega)).trans a0, (hU (s + 1) (by omega) (by omega)).trans a1, (hU (s + 2) (by omega) (by omega)).trans a2, (hU (s + 3) (by omega) (by omega)).trans a3⟩⟩
  have e5 : q_w5 T s m ↔ q_w5 U s m := ⟨fun ⟨z, a0, a1, a2, a3⟩ => ⟨z, (hU (s + 0) (by omega) (by omega)).symm.trans a0, (hU (s + 1) (by omega) (by omega)).symm.trans a1, (hU (s + 2) (by omega) (by omega)).symm.trans a2, (hU (s + 3) (by omega) (by omega)).symm.trans a3⟩, fun ⟨z, a0, a1, a2, a3⟩ => ⟨z, (hU (s + 0) (by omega) (by omega)).trans a0, (hU (s + 1) (by omega) (by omega)).trans a1, (hU (s + 2) (by omega) (by omega)).trans a2, (hU (s + 3) (by omega) (by omega)).trans a3⟩⟩
  have e6 : q_w6 T s m ↔ q_w6 U s m := ⟨fun ⟨z, a0, a1, a2, a3⟩ => ⟨z, (hU (s + 0) (by omega) (by omega)).symm.trans a0, (hU (s + 1) (by omega) (by omega)).symm.trans a1, (hU (s + 2) (by omega) (by omega)).symm.trans a2, (hU (s + 3) (by omega) (by omega)).symm.trans a3⟩, fun ⟨z, a0, a1, a2, a3⟩ => ⟨z, (hU (s + 0) (by omega) (by omega)).trans a0, (hU (s + 1) (by omega) (by omega)).trans a1, (hU (s + 2) (by omega) (by omega)).trans a2, (hU (s + 3) (by omega) (by omega)).trans a3⟩⟩
  unfold wdK
  exact ite_cg e0 rfl (ite_cg e1 rfl (ite_cg e2 rfl (ite_cg e3 rfl (ite_cg e4 rfl (ite_cg e5 rfl (ite_cg e6 rfl rfl))))))
theorem kdT_cg (hU : ∀ j, 0 ≤ j → j < n → T j = U j) {s : Int} (h1 : 0 ≤ s) (h2 : s ≤ n) : kdT T n s = kdT U n s := by
  have b := tkE_bd (T := U) h2
  unfold kdT
  rw [tkK_cg hU h1, tkE_cg hU h1 h2, wdK_cg hU h1 (by omega)]
theorem rdN_cg (hU : ∀ j, 0 ≤ j → j < n → T j = U j) {k h : Int} : ∀ (q : Nat) (i p : Int) (N : Int → Int), 0 ≤ p → p ≤ n → rdN T n k h q i p N = rdN U n k h q i p N
  | 0, i, p, N, _, _ => rfl
  | q + 1, i, p, N, h1, h2 => by
    have b1 := tkS_bd (T := U) h2
    have b2 := tkE_bd (T := U) b1.2
    unfold rdN
    rw [tkS_cg hU h1 h2, tkK_cg hU (by omega), tkV_cg hU (by omega) b1.2, tkE_cg hU (by omega) b1.2, rdN_cg hU q (i + 1) _ _ (by omega) b2.2]
theorem rdL_cg (hU : ∀ j, 0 ≤ j → j < n → T j = U j) {h w d s p : Int} (h1 : 0 ≤ p) (h2 : p ≤ n) : rdL T n h w d s p = rdL U n h w d s p := by
  have b1 := tkS_bd (T := U) h2
  have b2 := tkE_bd (T := U) b1.2
  unfold rdL
  rw [tkS_cg hU h1 h2, kdT_cg hU (by omega) b1.2, tkE_cg hU (by omega) b1.2, rdN_cg hU _ _ _ _ (by omega) b2.2]
theorem rdA_cg (hU : ∀ j, 0 ≤ j → j < n → T j = U j) : ∀ (f : Nat) (h w d s p : Int), 0 ≤ p → p ≤ n → rdA T n f h w d s p = rdA U n f h w d s p
  | 0, h, w, d, s, p, _, _ => rfl
  | f + 1, h, w, d, s, p, h1, h2 => by
    have eL := rdL_cg hU (h := h) (w := w) (d := d) (s := s) h1 h2
    cases e1 : rdL U n h w d s p with
    | inl x => rw [rdA_1 e1, rdA_1 (eL.trans e1)]
    | inr q =>
      obtain ⟨k, p', N⟩ := q
      have ok := rdL_ok h2 e1
      have b1 := tkS_bd (T := U) ok.1.2
      have b2 := tkE_bd (T := U) b1.2
      have eS := tkS_cg hU (p := p') (by omega) ok.1.2
      have eK := tkK_cg hU (s := tkS U n p') (by omega)
      by_cases c : tkK U n (tkS U n p') = 0
      · rw [rdA_2 e1 c, rdA_2 (eL.trans e1) (by rw [eS, eK]; exact c)]
      · by_cases c2 : tkK U n (tkS U n p') = 3
        · rw [rdA_3 e1 c2, rdA_3 (eL.trans e1) (by rw [eS, eK]; exact c2), eS, tkE_cg hU (by omega) b1.2, rdA_cg hU f _ _ _ _ _ (by omega) b2.2]
        · rw [rdA_4 e1 c c2, rdA_4 (eL.trans e1) (by rw [eS, eK]; exact c) (by rw [eS, eK]; exact c2), eS]
end CG
theorem tkE_3 {T : Int → Int} {n s : Int} (c : tkK T n s = 3) : tkE T n s = s + 1 := by
  unfold tkK at c
  unfold tkE
  split at c
  · omega
  · rename_i c0
    rw [if_neg c0]
    split at c
    · omega
    · rename_i c1
      rw [if_neg c1]
      split at c
      · omega
      · rename_i c2
        rw [if_neg c2]
theorem tkT_2 {T : Int → Int} {n s : Int} : tkT T n s = -2 ↔ tkK T n s = 0 := by
  unfold tkT tkK
  by_cases c0 : n ≤ s
  · rw [if_pos c0, if_pos c0]; omega
  · rw [if_neg c0, if_neg c0]
    by_cases c : q_let (T s)
    · rw [if_pos c, if_pos c, tk_let c0 c]
      have rb := ru_bd (P := q_let) (T := T) (n := n) (p := s) (by omega)
      split
      · have := (hs_n (T := T) (s := s) (ru q_let T n s - s).toNat (by omega) (fun q q1 q2 => rb.2.2 _ (by omega) (by omega))).1
        omega
      · omega
    · rw [if_neg c, if_neg c]
      (repeat' split) <;> omega
theorem tkT_3 {T : Int → Int} {n s : Int} : tkT T n s = -3 ↔ tkK T n s = 3 := by
  unfold tkT tkK
  by_cases c0 : n ≤ s
  · rw [if_pos c0, if_pos c0]; omega
  · rw [if_neg c0, if_neg c0]
    by_cases c : q_let (T s)
    · rw [if_pos c, if_pos c, tk_let c0 c]
      have rb := ru_bd (P := q_let) (T := T) (n := n) (p := s) (by omega)
      split
      · have := (hs_n (T := T) (s := s) (ru q_let T n s - s).toNat (by omega) (fun q q1 q2 => rb.2.2 _ (by omega) (by omega))).1
        omega
      · omega
    · rw [if_neg c, if_neg c]
      by_cases c2 : q_dig (T s)
      · rw [if_pos c2, if_pos c2]
        split <;> omega
      · rw [if_neg c2, if_neg c2]
        split <;> omega
