theorem sp_thSet_0 {sg : mm_S} {g s t : Int32} {are : Bool} {more : Int32} (h : sp_thSet sg g s t are more = 0) : sp_name sg g s t = true ∧ are = true ∧ sp_canRev sg (nN g) (nN s) more = true := by
  unfold sp_thSet at h
  by_cases h1 : sp_name sg g s t = true
  · rw [if_pos h1] at h
    by_cases h2 : are = true
    · rw [if_pos h2] at h
      by_cases h3 : sp_canRev sg (nN g) (nN s) more = true
      · exact ⟨h1, h2, h3⟩
      · rw [if_neg h3] at h
        exact absurd h (by decide)
    · rw [if_neg h2] at h
      exact absurd h (by decide)
  · rw [if_neg h1] at h
    exact absurd h (by decide)

theorem sp_thDrop_0 {sg : mm_S} {g s t : Int32} (h : sp_thDrop sg g s t = 0) : sp_name sg g s t = true ∧ (sp_hasB (sp_has sg (nN s) (nN (sg 10 (4 * nN s + nN g))) (nN t)) && sp_canRev sg (nN g) (nN s) 1) = true := by
  unfold sp_thDrop at h
  by_cases h1 : sp_name sg g s t = true
  · rw [if_pos h1] at h
    refine ⟨h1, ?_⟩
    by_cases h2 : (sp_hasB (sp_has sg (nN s) (nN (sg 10 (4 * nN s + nN g))) (nN t)) && sp_canRev sg (nN g) (nN s) 1) = true
    · exact h2
    · rw [if_neg h2] at h
      exact absurd h (by decide)
  · rw [if_neg h1] at h
    exact absurd h (by decide)
