/-! the longest common row by the words kept: the same as by rows of lengths -/
def sl_ro (r : Nat → Int32) : Nat → List Int32
  | 0 => []
  | k + 1 => sl_ro r k ++ [r k]
theorem sl_snoc {l a : List Int32} {x : Int32} : l.Sublist (a ++ [x]) ↔ l.Sublist a ∨ ∃ l', l = l' ++ [x] ∧ l'.Sublist a := by
  rw [List.sublist_append_iff]
  constructor
  · rintro ⟨l1, l2, rfl, h1, h2⟩
    cases h2 with
    | cons _ h => cases h; rw [List.append_nil]; exact Or.inl h1
    | cons_cons _ h => cases h; exact Or.inr ⟨l1, rfl, h1⟩
  · rintro (h | ⟨l', rfl, h⟩)
    · exact ⟨l, [], (List.append_nil l).symm, h, List.nil_sublist _⟩
    · exact ⟨l', [x], rfl, h, List.Sublist.refl _⟩
theorem sl_last {l l' : List Int32} {x y : Int32} (h : l ++ [x] = l' ++ [y]) : l = l' ∧ x = y := by
  have := List.append_inj' h rfl
  exact ⟨this.1, by simpa using this.2⟩
/-- none is longer -/
theorem sl_le (r w : Nat → Int32) : ∀ (i k : Nat) (l : List Int32), l.Sublist (sl_ro r k) → l.Sublist (sl_ro w i) → l.length ≤ sp_D r w i k
  | 0, k, l, _, h => by
    rw [List.sublist_nil.mp h]
    exact Nat.zero_le _
  | i + 1, 0, l, h, _ => by
    rw [List.sublist_nil.mp h]
    exact Nat.zero_le _
  | i + 1, k + 1, l, h1, h2 => by
    rw [sp_D_step]
    rcases sl_snoc.mp h1 with a1 | ⟨l1, rfl, a1⟩
    · rcases sl_snoc.mp h2 with a2 | ⟨l2, rfl, a2⟩
      · have := sl_le r w i k l a1 a2
        have h3 := sl_le r w (i + 1) k l a1 (sl_snoc.mpr (Or.inl a2))
        split
        · omega
        · exact Nat.le_trans h3 (Nat.le_max_right _ _)
      · have h3 := sl_le r w (i + 1) k _ a1 (sl_snoc.mpr (Or.inr ⟨l2, rfl, a2⟩))
        split
        · have h4 := sl_le r w i k l2 (List.Sublist.trans (List.sublist_append_left l2 [w i]) a1) a2
          rw [List.length_append]
          show l2.length + 1 ≤ _
          omega
        · exact Nat.le_trans h3 (Nat.le_max_right _ _)
    · rcases sl_snoc.mp h2 with a2 | ⟨l2, e, a2⟩
      · have h3 := sl_le r w i (k + 1) _ (sl_snoc.mpr (Or.inr ⟨l1, rfl, a1⟩)) a2
        have h4 := sl_le r w i k l1 a1 (List.Sublist.trans (List.sublist_append_left l1 [r k]) a2)
        split
        · rw [List.length_append]
          show l1.length + 1 ≤ _
          omega
        · exact Nat.le_trans h3 (Nat.le_max_left _ _)
      · obtain ⟨rfl, e2⟩ := sl_last e
        rw [if_pos e2, List.length_append]
        show l1.length + 1 ≤ _
        have := sl_le r w i k l1 a1 a2
        omega
/-- one is so long -/
theorem sl_ex (r w : Nat → Int32) : ∀ (i k : Nat), ∃ l : List Int32, l.Sublist (sl_ro r k) ∧ l.Sublist (sl_ro w i) ∧ l.length = sp_D r w i k
  | 0, k => ⟨[], List.nil_sublist _, List.nil_sublist _, rfl⟩
  | i + 1, 0 => ⟨[], List.nil_sublist _, List.nil_sublist _, (sp_D_0 r w (i + 1)).symm⟩
  | i + 1, k + 1 => by
    rw [sp_D_step]
    split
    · next e =>
      obtain ⟨l, a, b, c⟩ := sl_ex r w i k
      exact ⟨l ++ [r k], sl_snoc.mpr (Or.inr ⟨l, rfl, a⟩), sl_snoc.mpr (Or.inr ⟨l, by rw [e], b⟩), by rw [List.length_append, c]; rfl⟩
    · obtain ⟨l, a, b, c⟩ := sl_ex r w i (k + 1)
      obtain ⟨l', a', b', c'⟩ := sl_ex r w (i + 1) k
      rcases Nat.le_total (sp_D r w i (k + 1)) (sp_D r w (i + 1) k) with q | q
      · exact ⟨l', sl_snoc.mpr (Or.inl a'), b', by rw [c', Nat.max_eq_right q]⟩
      · exact ⟨l, a, sl_snoc.mpr (Or.inl b), by rw [c, Nat.max_eq_left q]⟩
/-- the words of a row whose bits are in a set -/
def sl_kp (r : Nat → Int32) (b : Nat) : Nat → List Int32
  | 0 => []
  | k + 1 => if b.testBit k = true then sl_kp r b k ++ [r k] else sl_kp r b k
theorem sl_kp_sub (r : Nat → Int32) (b : Nat) : ∀ k, (sl_kp r b k).Sublist (sl_ro r k)
  | 0 => List.Sublist.refl _
  | k + 1 => by
    unfold sl_kp sl_ro
    split
    · exact sl_snoc.mpr (Or.inr ⟨_, rfl, sl_kp_sub r b k⟩)
    · exact sl_snoc.mpr (Or.inl (sl_kp_sub r b k))
theorem sl_kp_congr (r : Nat → Int32) {b c : Nat} : ∀ k, (∀ j, j < k → b.testBit j = c.testBit j) → sl_kp r b k = sl_kp r c k
  | 0, _ => rfl
  | k + 1, h => by
    unfold sl_kp
    rw [h k (Nat.lt_succ_self k), sl_kp_congr r k (fun j hj => h j (Nat.lt_succ_of_lt hj))]
theorem sl_kp_more (r : Nat → Int32) {b L : Nat} (hb : b < 2 ^ L) : ∀ k, L ≤ k → sl_kp r b k = sl_kp r b L
  | 0, h => by rw [Nat.le_zero.mp h]
  | k + 1, h => by
    rcases Nat.lt_or_ge k L with q | q
    · rw [show L = k + 1 by omega]
    · refine Eq.trans ?_ (sl_kp_more r hb k q)
      show (if b.testBit k = true then sl_kp r b k ++ [r k] else sl_kp r b k) = sl_kp r b k
      rw [Nat.testBit_lt_two_pow (Nat.lt_of_lt_of_le hb (Nat.pow_le_pow_right (by decide) q)), if_neg (by decide)]
theorem sl_kp_ex (r : Nat → Int32) : ∀ (k : Nat) (l : List Int32), l.Sublist (sl_ro r k) → ∃ b, b < 2 ^ k ∧ sl_kp r b k = l
  | 0, l, h => ⟨0, by decide, (List.sublist_nil.mp h).symm⟩
  | k + 1, l, h => by
    rcases sl_snoc.mp h with a | ⟨l', rfl, a⟩
    · obtain ⟨b, hb, e⟩ := sl_kp_ex r k l a
      refine ⟨b, by rw [Nat.pow_succ]; omega, ?_⟩
      unfold sl_kp
      rw [Nat.testBit_lt_two_pow hb, if_neg (by decide)]
      exact e
    · obtain ⟨b, hb, e⟩ := sl_kp_ex r k l' a
      refine ⟨2 ^ k + b, by rw [Nat.pow_succ]; omega, ?_⟩
      unfold sl_kp
      rw [Nat.testBit_two_pow_add_eq, Nat.testBit_lt_two_pow hb, if_pos (by decide)]
      rw [sl_kp_congr r (c := b) k (fun j hj => Nat.testBit_two_pow_add_gt hj b), e]
