/-! all steps; calls; ends -/
theorem ex_call {y pc : Nat} {lv : List (Option Value)} {st : List Value} {μ : mm} {i : Instr} {z pc' : Nat} {as : List Value} {lv' : List (Option Value)} {st' : List Value} {μ' : mm} (h : ex y pc lv st μ i = some (.inr (.inl (z, as, pc', lv', st', μ')))) :
    (∃ idx b, i = .invokevirtual idx ∧ lnk (mo y) idx = some (0, z) ∧ as = .ref b :: (st.take (na z)).reverse ∧ st.drop (na z) = .ref b :: st' ∧ okr z b = true ∧ okc y z st' = true ∧ pc' = pc + 3 ∧ lv' = lv ∧ μ' = μ) ∨
    (∃ idx, i = .invokestatic idx ∧ lnk (mo y) idx = some (1, z) ∧ as = (st.take (na z)).reverse ∧ st' = st.drop (na z) ∧ na z ≤ st.length ∧ okc y z st' = true ∧ pc' = pc + 3 ∧ lv' = lv ∧ μ' = μ) := by
  unfold ex at h
  split at h
  case h_61 => sorry
  all_goals sorry
