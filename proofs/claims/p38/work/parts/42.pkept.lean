/-! rows of words as numbers; the words found in their order -/
def sl_enc : List Int32 → Nat
  | [] => 0
  | x :: xs => nN x + 32 * sl_enc xs
def sl_w5 (l : List Int32) : Prop := ∀ x, x ∈ l → ∃ a, 0 < a ∧ a < 32 ∧ x = nI a
theorem sl_w5_tail {x : Int32} {l : List Int32} (h : sl_w5 (x :: l)) : sl_w5 l := fun y hy => h y (List.mem_cons_of_mem _ hy)
theorem sl_enc_lt : ∀ (l : List Int32), sl_w5 l → sl_enc l < 32 ^ l.length
  | [], _ => by decide
  | x :: xs, h => by
    obtain ⟨a, -, h2, rfl⟩ := h x List.mem_cons_self
    have := sl_enc_lt xs (sl_w5_tail h)
    rw [List.length_cons, Nat.pow_succ, sl_enc, show nN (nI a) = a from nI_clamp (by omega)]
    omega
theorem sl_enc_snoc : ∀ (l : List Int32) (x : Int32), sl_enc (l ++ [x]) = sl_enc l + nN x * 32 ^ l.length
  | [], x => by simp [sl_enc]
  | y :: ys, x => by
    show nN y + 32 * sl_enc (ys ++ [x]) = (nN y + 32 * sl_enc ys) + nN x * 32 ^ (ys.length + 1)
    rw [sl_enc_snoc ys x, Nat.pow_succ, Nat.mul_add, ← Nat.mul_assoc (nN x), Nat.mul_comm (nN x * 32 ^ ys.length) 32, Nat.add_assoc]
theorem sl_enc_0 : ∀ (l : List Int32), sl_w5 l → (sl_enc l = 0 ↔ l = [])
  | [], _ => by simp [sl_enc]
  | x :: xs, h => by
    obtain ⟨a, h1, h2, rfl⟩ := h x List.mem_cons_self
    rw [sl_enc, show nN (nI a) = a from nI_clamp (by omega)]
    simp
    omega
/-- how many of a list's words were found, one after another, among the first i words -/
def sl_cnt (xs : List Int32) (w : Nat → Int32) : Nat → Nat
  | 0 => 0
  | i + 1 => if xs[sl_cnt xs w i]? = some (w i) then sl_cnt xs w i + 1 else sl_cnt xs w i
theorem sl_cnt_le (xs : List Int32) (w : Nat → Int32) : ∀ i, sl_cnt xs w i ≤ xs.length
  | 0 => Nat.zero_le _
  | i + 1 => by
    have := sl_cnt_le xs w i
    unfold sl_cnt
    split
    · next h =>
      have := (List.getElem?_eq_some_iff.mp h).1
      omega
    · omega
theorem sl_cnt_up (xs : List Int32) (w : Nat → Int32) : ∀ (i m : Nat), m ≤ xs.length → (xs.take m).Sublist (sl_ro w i) → m ≤ sl_cnt xs w i
  | 0, m, hm, h => by
    have h1 := congrArg List.length (List.sublist_nil.mp h)
    rw [List.length_take] at h1
    simp at h1
    rcases h1 with h1 | h1
    · omega
    · rw [h1] at hm
      exact hm
  | i + 1, 0, _, _ => Nat.zero_le _
  | i + 1, m + 1, hm, h => by
    have e : xs.take (m + 1) = xs.take m ++ [xs[m]'(by omega)] := by rw [List.take_append_getElem]
    have hle : sl_cnt xs w i ≤ sl_cnt xs w (i + 1) := by
      show _ ≤ (if xs[sl_cnt xs w i]? = some (w i) then sl_cnt xs w i + 1 else sl_cnt xs w i)
      split <;> omega
    rcases sl_snoc.mp h with a | ⟨l', e2, a⟩
    · exact Nat.le_trans (sl_cnt_up xs w i (m + 1) hm a) hle
    · rw [e] at e2
      obtain ⟨rfl, e3⟩ := sl_last e2
      have h4 := sl_cnt_up xs w i m (by omega) a
      rcases Nat.lt_or_ge m (sl_cnt xs w i) with q | q
      · omega
      · have h5 : m = sl_cnt xs w i := by omega
        show _ ≤ (if xs[sl_cnt xs w i]? = some (w i) then sl_cnt xs w i + 1 else sl_cnt xs w i)
        rw [← h5, if_pos (List.getElem?_eq_some_iff.mpr ⟨by omega, e3⟩)]
        exact Nat.le_refl _
theorem sl_cnt_sub (xs : List Int32) (w : Nat → Int32) : ∀ i, (xs.take (sl_cnt xs w i)).Sublist (sl_ro w i)
  | 0 => by simp [sl_cnt, sl_ro]
  | i + 1 => by
    have ih := sl_cnt_sub xs w i
    unfold sl_cnt sl_ro
    split
    · next h =>
      obtain ⟨h1, h2⟩ := List.getElem?_eq_some_iff.mp h
      refine sl_snoc.mpr (Or.inr ⟨_, ?_, ih⟩)
      rw [← h2, List.take_append_getElem]
    · exact sl_snoc.mpr (Or.inl ih)
theorem sl_cnt_all (xs : List Int32) (w : Nat → Int32) (i : Nat) : sl_cnt xs w i = xs.length ↔ xs.Sublist (sl_ro w i) := by
  constructor
  · intro h
    have := sl_cnt_sub xs w i
    rw [h, List.take_length] at this
    exact this
  · intro h
    have := sl_cnt_up xs w i xs.length (Nat.le_refl _) (by rw [List.take_length]; exact h)
    have := sl_cnt_le xs w i
    omega
/-- how many bits a set has below a place -/
def sl_cb (b : Nat) : Nat → Nat
  | 0 => 0
  | k + 1 => sl_cb b k + (if b.testBit k = true then 1 else 0)
theorem sl_kp_len (r : Nat → Int32) (b : Nat) : ∀ k, (sl_kp r b k).length = sl_cb b k
  | 0 => rfl
  | k + 1 => by
    unfold sl_kp sl_cb
    split
    · rw [List.length_append, sl_kp_len r b k]
      rfl
    · exact sl_kp_len r b k
theorem sl_cb_pop : ∀ b, b < 64 → sl_cb b 6 = sp_pop b := by decide +kernel
/-- the longest so far -/
def sl_best (r w : Nat → Int32) (m : Nat) : Nat → Nat
  | 0 => 0
  | b + 1 => if sl_best r w m b < sp_pop b ∧ sl_cnt (sl_kp r b 6) w m = sp_pop b then sp_pop b else sl_best r w m b
theorem sl_best_le (r w : Nat → Int32) (m L : Nat) (hL : L ≤ 6) : ∀ b, b ≤ 2 ^ L → sl_best r w m b ≤ sp_D r w m L
  | 0, _ => Nat.zero_le _
  | b + 1, h => by
    have h6 : 2 ^ L ≤ 2 ^ 6 := Nat.pow_le_pow_right (by decide) hL
    have hb : b < 64 := by omega
    unfold sl_best
    split
    · next q =>
      have e := sl_kp_len r b 6
      rw [sl_cb_pop b hb] at e
      rw [← e]
      refine sl_le r w m L _ ?_ ((sl_cnt_all _ w m).mp (by rw [e]; exact q.2))
      rw [sl_kp_more r (by omega : b < 2 ^ L) 6 hL]
      exact sl_kp_sub r b L
    · exact sl_best_le r w m L hL b (by omega)
theorem sl_best_ge (r w : Nat → Int32) (m : Nat) : ∀ b c, b < c → c ≤ 64 → sl_cnt (sl_kp r b 6) w m = sp_pop b → sp_pop b ≤ sl_best r w m c
  | b, 0, h, _, _ => absurd h (Nat.not_lt_zero b)
  | b, c + 1, h, h64, hs => by
    unfold sl_best
    rcases Nat.lt_or_ge b c with q | q
    · have := sl_best_ge r w m b c q (by omega) hs
      split <;> omega
    · have e : b = c := by omega
      rw [← e]
      split
      · exact Nat.le_refl _
      · next q => exact Nat.not_lt.mp (fun z => q ⟨z, hs⟩)
theorem sl_best_eq (r w : Nat → Int32) (m L : Nat) (hL : L ≤ 6) : sl_best r w m (2 ^ L) = sp_D r w m L := by
  apply Nat.le_antisymm (sl_best_le r w m L hL _ (Nat.le_refl _))
  obtain ⟨l, h1, h2, h3⟩ := sl_ex r w m L
  obtain ⟨b, hb, e⟩ := sl_kp_ex r L l h1
  have h6 : 2 ^ L ≤ 2 ^ 6 := Nat.pow_le_pow_right (by decide) hL
  have hlen : (sl_kp r b 6).length = sp_pop b := by rw [sl_kp_len, sl_cb_pop b (by omega)]
  have e6 : sl_kp r b 6 = l := by rw [sl_kp_more r hb 6 hL, e]
  rw [← h3, ← e6, hlen]
  refine sl_best_ge r w m b (2 ^ L) hb h6 ?_
  rw [← hlen]
  exact (sl_cnt_all _ w m).mpr (by rw [e6]; exact h2)
