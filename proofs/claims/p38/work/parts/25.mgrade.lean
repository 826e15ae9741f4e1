/-! the grader, in pure words -/
/-- the lengths of the longest common rows, for one more word said -/
def sp_Dn (r : Nat → Int32) (c : Int32) (prev : Nat → Nat) : Nat → Nat
  | 0 => 0
  | k + 1 => if r k = c then prev k + 1 else max (prev (k + 1)) (sp_Dn r c prev k)
def sp_D (r w : Nat → Int32) : Nat → Nat → Nat
  | 0 => fun _ => 0
  | i + 1 => sp_Dn r (w i) (sp_D r w i)
theorem sp_D_le (r w : Nat → Int32) : ∀ i k : Nat, sp_D r w i k ≤ k
  | 0, k => Nat.zero_le k
  | i + 1, 0 => Nat.le_refl 0
  | i + 1, k + 1 => by
    show sp_Dn r (w i) (sp_D r w i) (k + 1) ≤ k + 1
    unfold sp_Dn
    have h1 := sp_D_le r w i k
    have h2 := sp_D_le r w i (k + 1)
    have h3 : sp_Dn r (w i) (sp_D r w i) k ≤ k := sp_D_le r w (i + 1) k
    split
    · omega
    · exact Nat.max_le.mpr ⟨h2, by omega⟩
theorem sp_D_step (r w : Nat → Int32) (i k : Nat) : sp_D r w (i + 1) (k + 1) = if r k = w i then sp_D r w i k + 1 else max (sp_D r w i (k + 1)) (sp_D r w (i + 1) k) := rfl
theorem sp_D_0 (r w : Nat → Int32) (i : Nat) : sp_D r w i 0 = 0 := Nat.le_zero.mp (sp_D_le r w i 0)
def sp_rw (row : Int32) : Nat → Int32 := fun k => sp_wa row (nI k)
/-- the length of the longest row common to a rule and the words of the task j of an answer -/
def sp_com (sg : mm_S) (rule : Int32) (j : Nat) : Nat := sp_D (sp_rw rule) (fun i => sg 21 (12 * j + i)) (nN (sg 20 j)) (sp_len rule)
def sp_cho (points rule signs : Int32) : Int32 :=
  if rule = 0 then (if signs = 0 then points else 0)
  else if 0 < nI (sp_pop (nN (signs &&& rule))) - nI (sp_pop (nN (signs &&& (rule ^^^ -1)))) then points * (nI (sp_pop (nN (signs &&& rule))) - nI (sp_pop (nN (signs &&& (rule ^^^ -1))))) / nI (sp_pop (nN rule)) else 0
def sp_gain (sg : mm_S) (e j : Nat) : Int32 :=
  if sg 6 e = 0 then (if (!decide (sg 17 j = 0) && sp_in (sg 18 j - sg 8 e) (-(sg 9 e)) (sg 9 e)) = true then sg 7 e else 0)
  else if sg 6 e = 1 then sp_cho (sg 7 e) (sg 8 e) (sg 19 j)
  else sg 7 e * nI (sp_com sg (sg 8 e) j) / nI (sp_len (sg 8 e))
def sp_dueT (sg : mm_S) (k t : Nat) : Int32 := match sp_has sg (k / 12) (nN (sg 14 k)) t with
  | none => 0
  | some u => sp_gain sg (sp_e (k / 12) u t) (5 * k + t)
def sp_due (sg : mm_S) (k : Nat) : Int32 := sp_is (sp_dueT sg k) 5
theorem sp_and32 : ∀ a, a < 32 → ∀ b, b < 32 → nI a &&& nI b = nI (a &&& b) ∧ nI a &&& (nI b ^^^ (-1)) = nI (a - (a &&& b)) ∧ a &&& b < 64 ∧ a - (a &&& b) < 64 := by decide +kernel
theorem sp_pop_0 : ∀ a, a < 64 → a ≠ 0 → ¬ nI (sp_pop a) = 0 := by decide +kernel
theorem sp_row_len {row : Int32} (h : sp_row row = true) : 1 ≤ sp_len row := by
  rcases Nat.eq_zero_or_pos (sp_len row) with h0 | h0
  · simp only [sp_row, Bool.and_eq_true, decide_eq_true_eq] at h
    rw [h0] at h
    have h2 : row = 0 := by
      have h3 := h.2
      rw [show (5 * nI 0 &&& 31 : Int32) = 0 by decide] at h3
      simpa using h3
    rw [h2] at h
    exact absurd h.1.1 (by decide)
  · exact h0
theorem sp_row_len0 {row : Int32} (h : sp_row row = true) : ¬ nI (sp_len row) = 0 := fun q => by
  have h1 := sp_row_len h
  have h2 := sp_len_le row
  have := (nI_eq (b := 0) (by omega) (by decide)).mp q
  omega
