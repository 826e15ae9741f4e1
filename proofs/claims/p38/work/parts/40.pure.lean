/-! the system's small words against the reference's -/
theorem sb_m31 : ∀ i, i < 32 → (31#32).getLsbD i = decide (i < 5) := by decide
theorem sb_shr (x : BitVec 32) (k : Nat) (hk : k ≤ 27) : (x >>> k) &&& 31#32 = (x.sshiftRight k) &&& 31#32 := by
  apply BitVec.eq_of_getLsbD_eq
  intro i hi
  rw [BitVec.getLsbD_and, BitVec.getLsbD_and, sb_m31 i hi]
  by_cases h5 : i < 5
  · rw [BitVec.getLsbD_ushiftRight, BitVec.getLsbD_sshiftRight]
    simp [show k + i < 32 by omega, show ¬ 32 ≤ i by omega]
  · simp [h5]
theorem sb_wa (row : Int32) (p : Nat) (hp : p < 6) : ((row.toUInt32 >>> ((nI p * 5).toUInt32 &&& Int32.toUInt32 31)).toInt32) &&& 31 = sp_wa row (nI p) := by
  apply Int32.toBitVec_inj.mp
  rcases (show p = 0 ∨ p = 1 ∨ p = 2 ∨ p = 3 ∨ p = 4 ∨ p = 5 by omega) with rfl | rfl | rfl | rfl | rfl | rfl
  · exact sb_shr row.toBitVec 0 (by decide)
  · exact sb_shr row.toBitVec 5 (by decide)
  · exact sb_shr row.toBitVec 10 (by decide)
  · exact sb_shr row.toBitVec 15 (by decide)
  · exact sb_shr row.toBitVec 20 (by decide)
  · exact sb_shr row.toBitVec 25 (by decide)
theorem sb_shl (x : BitVec 32) (k : Nat) : x <<< k = BitVec.twoPow 32 k * x := by
  rw [BitVec.mul_comm, BitVec.mul_twoPow_eq_shiftLeft]
theorem sb_pr (a b c : Int32) : ((a <<< (10 : Int32)) + (b <<< (5 : Int32))) + c = sp_pr a b c := by
  apply Int32.toBitVec_inj.mp
  show (a.toBitVec <<< 10 + b.toBitVec <<< 5) + c.toBitVec = (1024#32 * a.toBitVec + 32#32 * b.toBitVec) + c.toBitVec
  rw [sb_shl, sb_shl]
  rfl
theorem sb_sar (row : Int32) (n : Nat) (hn : n ≤ 6) : (row >>> ((nI n * 5) &&& 31)).toInt = row.toInt / 2 ^ (5 * n) := by
  rcases (show n = 0 ∨ n = 1 ∨ n = 2 ∨ n = 3 ∨ n = 4 ∨ n = 5 ∨ n = 6 by omega) with rfl | rfl | rfl | rfl | rfl | rfl | rfl
  all_goals (refine (BitVec.toInt_sshiftRight).trans ?_; exact Int.shiftRight_eq_div_pow _ _)
theorem sb_cm (n : Nat) (hn : n ≤ 6) : (5 * nI n &&& 31 : Int32) = (nI n * 5) &&& 31 := by
  rcases (show n = 0 ∨ n = 1 ∨ n = 2 ∨ n = 3 ∨ n = 4 ∨ n = 5 ∨ n = 6 by omega) with rfl | rfl | rfl | rfl | rfl | rfl | rfl <;> rfl
/-- a row is one: it has a word, and nothing behind its words -/
theorem sb_row (row : Int32) : sp_row row = true ↔ ¬ nI (sp_len row) = 0 ∧ row >>> ((nI (sp_len row) * 5) &&& 31) = 0 := by
  constructor
  · intro h
    refine ⟨sp_row_len0 h, ?_⟩
    simp only [sp_row, Bool.and_eq_true, decide_eq_true_eq] at h
    rw [← sb_cm _ (sp_len_le row)]
    exact h.2
  · intro ⟨h0, h1⟩
    have hl := sp_len_le row
    have hp : sp_len row ≠ 0 := fun q => h0 (by rw [q]; rfl)
    have h2 : row.toInt / 2 ^ (5 * sp_len row) = 0 := by
      rw [← sb_sar row _ hl, h1]
      rfl
    have hpos : (0 : Int) < 2 ^ (5 * sp_len row) := Int.pow_pos (by decide)
    have h3 : 0 ≤ row.toInt := by
      rcases (show row.toInt < 0 ∨ 0 ≤ row.toInt by omega) with q | q
      · have := Int.ediv_neg_of_neg_of_pos q hpos
        omega
      · exact q
    have h4 : row.toInt < 2 ^ (5 * sp_len row) := by
      rcases Int.lt_or_le row.toInt (2 ^ (5 * sp_len row)) with q | q
      · exact q
      · have h5 : (1 : Int) ≤ row.toInt / 2 ^ (5 * sp_len row) := by
          rw [Int.le_ediv_iff_mul_le hpos]
          omega
        omega
    have h6 : row.toInt < 1073741824 := by
      have h7 : (2 : Int) ^ (5 * sp_len row) ≤ 2 ^ 30 := by
        rcases (show sp_len row = 1 ∨ sp_len row = 2 ∨ sp_len row = 3 ∨ sp_len row = 4 ∨ sp_len row = 5 ∨ sp_len row = 6 by omega) with q | q | q | q | q | q <;> rw [q] <;> decide
      omega
    have h8 : ¬ row.toInt = 0 := by
      intro q
      have hz : row = 0 := Int32.toInt_inj.mp q
      rw [hz] at hp
      exact hp (by decide)
    simp only [sp_row, Bool.and_eq_true, decide_eq_true_eq]
    refine ⟨⟨Int32.lt_iff_toInt_lt.mpr ?_, Int32.lt_iff_toInt_lt.mpr ?_⟩, ?_⟩
    · show (0 : Int32).toInt < row.toInt
      rw [show (0 : Int32).toInt = 0 from rfl]
      omega
    · rw [show (1073741824 : Int32).toInt = 1073741824 from rfl]
      exact h6
    · rw [sb_cm _ hl]
      exact h1
