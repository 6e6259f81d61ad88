-- a cell is worked in the reference
theorem sm_id (z : Sl) (k : Nat) : sameI z z k := ⟨fun _ _ _ => rfl, fun _ _ => rfl, rfl⟩
theorem lcle {a b : Int64} : (lg_cmp a b ≤ 0) = ¬ b < a := by
  unfold lg_cmp
  apply propext
  by_cases h1 : a < b
  · simp only [h1, if_true]
    exact ⟨fun _ q => absurd h1 (Int64.lt_asymm q), fun _ => by decide⟩
  · by_cases h2 : a = b
    · subst h2
      simp
    · have h3 : b < a := by
        rcases Int64.lt_or_eq_of_le (Int64.not_lt.mp h1) with q | q
        · exact q
        · exact absurd q.symm h2
      simp [h1, h2, h3]
