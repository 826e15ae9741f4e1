/-! pure words of the reference's and the system's small functions -/
def hm_bI (b : Bool) : Int32 := if b then 1 else 0
theorem hm_bI_t : hm_bI true = 1 := rfl
theorem hm_bI_f : hm_bI false = 0 := rfl
theorem hm_bIz (b : Bool) : narrow .boolean (.int (hm_bI b)) = .int (hm_bI b) := by cases b <;> rfl
theorem hm_bI_1 {b : Bool} (h : b = true) : (1 : Int32) = hm_bI b := by rw [h]; rfl
theorem hm_bI_0 {b : Bool} (h : ¬ b = true) : (0 : Int32) = hm_bI b := by cases b with | true => exact absurd rfl h | false => rfl
theorem hm_bI_ne {b : Bool} : ¬ hm_bI b = 0 ↔ b = true := by cases b <;> simp [hm_bI]
theorem hm_bI_eq {b : Bool} : hm_bI b = 0 ↔ b = false := by cases b <;> simp [hm_bI]
/-- the word at a place, as the reference takes it -/
def sp_wa (row place : Int32) : Int32 := (row >>> ((5 * place) &&& 31)) &&& 31
def sp_lenF : Nat → Int32 → Nat → Nat
  | 0, _, n => n
  | f + 1, row, n => if sp_wa row (nI n) = 0 then n else sp_lenF f row (n + 1)
def sp_len (row : Int32) : Nat := sp_lenF 6 row 0
def sp_in (v lo hi : Int32) : Bool := decide (lo ≤ v) && decide (v ≤ hi)
def sp_row (row : Int32) : Bool := decide (0 < row) && decide (row < 1073741824) && decide (row >>> ((5 * nI (sp_len row)) &&& 31) = 0)
def sp_pr (a b c : Int32) : Int32 := 1024 * a + 32 * b + c
theorem sp_in_t {v lo hi : Int32} (h1 : ¬ v < lo) (h2 : ¬ hi < v) : sp_in v lo hi = true := by simp [sp_in, Int32.not_lt.mp h1, Int32.not_lt.mp h2]
theorem sp_in_f {v lo hi : Int32} (h : v < lo ∨ hi < v) : ¬ sp_in v lo hi = true := by
  intro q
  simp only [sp_in, Bool.and_eq_true, decide_eq_true_eq] at q
  rcases h with h | h
  · exact Int32.not_le.mpr h q.1
  · exact Int32.not_le.mpr h q.2
def sp_pop (m : Nat) : Nat := m % 2 + m / 2 % 2 + m / 4 % 2 + m / 8 % 2 + m / 16 % 2 + m / 32 % 2
theorem sp_pop_step : ∀ m, m < 64 → m ≠ 0 → nI m &&& (nI m - 1) = nI (m &&& (m - 1)) ∧ m &&& (m - 1) < m ∧ sp_pop m = sp_pop (m &&& (m - 1)) + 1 := by decide +kernel
theorem sp_lenF_le : ∀ (f : Nat) (row : Int32) (n : Nat), sp_lenF f row n ≤ n + f
  | 0, _, n => Nat.le_refl n
  | f + 1, row, n => by
    unfold sp_lenF
    split
    · omega
    · have := sp_lenF_le f row (n + 1)
      omega
theorem sp_len_le (row : Int32) : sp_len row ≤ 6 := sp_lenF_le 6 row 0

