/-! folding, in pure words -/
def sp_isCh (sg : mm_S) (s v k : Nat) : Bool := !decide (sg 2 (16 * s + k) = 0) && (!decide (nI k = nI v) && decide (sg 3 (16 * s + k) = nI v))
def sp_ch (sg : mm_S) (s v : Nat) : Nat → Int32
  | 0 => -1
  | k + 1 => if sp_isCh sg s v k = true then (if sp_ch sg s v k = -1 then nI k else -2) else sp_ch sg s v k
def sp_ndH (sg : mm_S) (s v : Nat) : Nat → Bool
  | 0 => decide (nI v = 0)
  | k + 1 => sp_ndH sg s v k || decide (sg 10 (4 * s + k) = nI v)
def sp_ndA (sg : mm_S) (s v : Nat) : Nat → Bool
  | 0 => sp_ndH sg s v 4
  | k + 1 => sp_ndA sg s v k || (!decide (sg 13 (12 * s + k) = 0) && decide (sg 14 (12 * s + k) = nI v))
def sp_need (sg : mm_S) (s v : Nat) : Bool := sp_ndA sg s v 12 || decide (sp_ch sg s v 16 = -2)
def sp_goes (sg : mm_S) (to : Option Nat) (k : Nat) : Bool := match to with
  | none => false
  | some t => decide (sg 6 (5 * t + k) = 4)
def sp_pass (sg : mm_S) (f : Nat) (to : Option Nat) (b : Bool) : Int32 := sp_is (fun k => if sp_goes sg to k = b then sp_cost sg (5 * f + k) else 0) 5
def sp_chO (sg : mm_S) (s v : Nat) : Option Nat := if sp_ch sg s v 16 = -1 then none else if sp_ch sg s v 16 = -2 then none else some (nN (sp_ch sg s v 16))
theorem sp_ch_cases (sg : mm_S) (s v : Nat) : ∀ k, k ≤ 16 → sp_ch sg s v k = -1 ∨ sp_ch sg s v k = -2 ∨ ∃ c, c < k ∧ sp_ch sg s v k = nI c ∧ sp_isCh sg s v c = true
  | 0, _ => Or.inl rfl
  | k + 1, h => by
    unfold sp_ch
    by_cases h1 : sp_isCh sg s v k = true
    · rw [if_pos h1]
      by_cases h2 : sp_ch sg s v k = -1
      · rw [if_pos h2]
        exact Or.inr (Or.inr ⟨k, Nat.lt_succ_self k, rfl, h1⟩)
      · rw [if_neg h2]
        exact Or.inr (Or.inl rfl)
    · rw [if_neg h1]
      rcases sp_ch_cases sg s v k (by omega) with q | q | ⟨c, q1, q2, q3⟩
      · exact Or.inl q
      · exact Or.inr (Or.inl q)
      · exact Or.inr (Or.inr ⟨c, by omega, q2, q3⟩)
theorem nI_m2 {n : Nat} (h : n < 2 ^ 31) : ¬ nI n = -2 := fun q => by
  have := congrArg Int32.toInt q
  rw [nI_toInt h] at this
  have h2 : (-2 : Int32).toInt = -2 := by decide
  omega
theorem sp_ch_one {sg : mm_S} {s v : Nat} (h1 : ¬ sp_ch sg s v 16 = -1) (h2 : ¬ sp_ch sg s v 16 = -2) : ∃ c, c < 16 ∧ sp_ch sg s v 16 = nI c ∧ sp_isCh sg s v c = true ∧ sp_chO sg s v = some c := by
  rcases sp_ch_cases sg s v 16 (Nat.le_refl _) with q | q | ⟨c, q1, q2, q3⟩
  · exact absurd q h1
  · exact absurd q h2
  · exact ⟨c, q1, q2, q3, by rw [sp_chO, if_neg h1, if_neg h2, q2, show nN (nI c) = c from nI_clamp (by omega)]⟩
theorem sp_isCh_own {sg : mm_S} (hI : sp_I sg) {s v c : Nat} (hs : s < sp_n sg) (hv : v < 16) (hc : c < 16) (h : sp_isCh sg s v c = true) : sp_th sg s c ∧ ∃ g, g < 4 ∧ sg 4 (16 * s + c) = nI g := by
  simp only [sp_isCh, Bool.and_eq_true, Bool.not_eq_true', decide_eq_false_iff_not, decide_eq_true_eq] at h
  have ht : sp_th sg s c := ⟨hc, h.1⟩
  rcases (hI.i3 s hs).2 c ht with ⟨-, h1, -⟩ | ⟨u, g, -, -, -, h1, h2⟩
  · rw [h1] at h
    exact absurd h.2.2.symm (nI_m1 (by omega))
  · exact ⟨ht, g, h1, h2⟩
def sp_less (sg : mm_S) (s v c : Nat) : Int32 := if sg 4 (16 * s + v) = sg 4 (16 * s + c) then sp_pass sg (16 * s + v) none false else 0
def sp_cFold (sg : mm_S) (s v : Nat) : Bool := !sp_need sg s v && (match sp_chO sg s v with
  | none => true
  | some c => sp_fits sg (nN (sg 4 (16 * s + c))) (sp_pass sg (16 * s + v) (some (16 * s + c)) true - sp_less sg s v c))
def sp_thFold (sg : mm_S) (s v : Int32) : Int32 := if sp_isV sg s v = true then (if sp_cFold sg (nN s) (nN v) = true then 0 else 2) else 1
def sp_cp (sg : mm_S) (f t k : Nat) : mm_S := mm_up (mm_up (mm_up (mm_up sg 6 (5 * t + k) (sg 6 (5 * f + k))) 7 (5 * t + k) (sg 7 (5 * f + k))) 8 (5 * t + k) (sg 8 (5 * f + k))) 9 (5 * t + k) (sg 9 (5 * f + k))
def sp_cpO (sg : mm_S) (f : Nat) (to : Option Nat) (k : Nat) : mm_S := match to with
  | none => sg
  | some t => if sg 6 (5 * t + k) = 4 then sp_cp sg f t k else sg
def sp_fdS (sg : mm_S) (f : Nat) (to : Option Nat) : Nat → mm_S
  | 0 => sg
  | k + 1 => mm_up (sp_cpO (sp_fdS sg f to k) f to k) 6 (5 * f + k) 4
def sp_toO (sg : mm_S) (s v : Nat) : Option Nat := (sp_chO sg s v).map (fun c => 16 * s + c)
def sp_par (sg : mm_S) (f : Nat) (to : Option Nat) : mm_S := match to with
  | none => sg
  | some t => mm_up sg 3 t (sg 3 f)
def sp_foldS (sg : mm_S) (s v : Nat) : mm_S := mm_up (sp_par (sp_fdS sg (16 * s + v) (sp_toO sg s v) 5) (16 * s + v) (sp_toO sg s v)) 2 (16 * s + v) 0
