/-! ROWS OF THE FACE: what is a level, what count answers -/
theorem isL_1 {k : Nat} (hk : k < 6) : isL (nI k) = 1 := by unfold isL; rw [if_neg (nI_pos (by omega)), if_neg (show ¬ (6 : Int32) ≤ nI k from nI_ge (b := 6) hk (by decide))]
theorem isL_b (x : Int32) : narrow .boolean (.int (isL x)) = .int (isL x) := by
  unfold isL
  split
  · rfl
  · split <;> rfl
theorem isL_of {x : Int32} (h : ¬ isL x = 0) : ∃ k : Nat, k < 6 ∧ x = nI k := by
  unfold isL at h
  split at h
  · exact absurd rfl h
  · split at h
    · exact absurd rfl h
    · rcases pk_ix x (n := 6) (by decide) with h1 | h1 | h1
      · exact absurd h1 (by assumption)
      · exact absurd h1 (by assumption)
      · exact h1
/-- what count answers -/
def cnF (N : rN) (T : rT) (rn x : Int32) : Int32 := if x = 0 then nI N.2 else if x = 1 then rn else if x = 2 then kdT T else if x = 3 then nbT T else if x = 4 then csT T else if x = 5 then lkT T else lnT T
