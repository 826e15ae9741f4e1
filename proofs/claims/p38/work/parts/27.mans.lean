/-! mends by name, answers and marks: which throw, what is answered, the state behind -/
def sp_menE (sg : mm_S) (s v t : Nat) (kind : Int32) : Nat := match sp_men sg s v t kind with
  | some u => sp_e s u t
  | none => 0
def sp_nmd (sg : mm_S) (s v t : Int32) : Bool := sp_isV sg s v && sp_in t 0 4
def sp_thMen (sg : mm_S) (s v t : Int32) (are : Bool) (kind : Int32) : Int32 := if sp_nmd sg s v t = true then (if are = true then (if (sp_men sg (nN s) (nN v) (nN t) kind).isSome = true then 0 else 3) else 2) else 1
def sp_menW (sg : mm_S) (s v t : Nat) (words : Int32) : Bool := match sp_men sg s v t 2 with
  | none => false
  | some u => sp_fits sg (nN (sg 4 (16 * s + u))) (nI (sp_len words) - sp_cost sg (sp_e s u t))
def sp_thMenW (sg : mm_S) (s v t : Int32) (words : Int32) : Int32 := if sp_nmd sg s v t = true then (if sp_row words = true then (if sp_menW sg (nN s) (nN v) (nN t) words = true then 0 else 3) else 2) else 1
theorem sp_thMen_0 {sg : mm_S} {s v t : Int32} {are : Bool} {kind : Int32} (h : sp_thMen sg s v t are kind = 0) : sp_nmd sg s v t = true ∧ are = true ∧ (sp_men sg (nN s) (nN v) (nN t) kind).isSome = true := by
  unfold sp_thMen at h
  by_cases h1 : sp_nmd sg s v t = true
  · rw [if_pos h1] at h
    by_cases h2 : are = true
    · rw [if_pos h2] at h
      by_cases h3 : (sp_men sg (nN s) (nN v) (nN t) kind).isSome = true
      · exact ⟨h1, h2, h3⟩
      · rw [if_neg h3] at h
        exact absurd h (by decide)
    · rw [if_neg h2] at h
      exact absurd h (by decide)
  · rw [if_neg h1] at h
    exact absurd h (by decide)
theorem sp_thMenW_0 {sg : mm_S} {s v t words : Int32} (h : sp_thMenW sg s v t words = 0) : sp_nmd sg s v t = true ∧ sp_row words = true ∧ sp_menW sg (nN s) (nN v) (nN t) words = true := by
  unfold sp_thMenW at h
  by_cases h1 : sp_nmd sg s v t = true
  · rw [if_pos h1] at h
    by_cases h2 : sp_row words = true
    · rw [if_pos h2] at h
      by_cases h3 : sp_menW sg (nN s) (nN v) (nN t) words = true
      · exact ⟨h1, h2, h3⟩
      · rw [if_neg h3] at h
        exact absurd h (by decide)
    · rw [if_neg h2] at h
      exact absurd h (by decide)
  · rw [if_neg h1] at h
    exact absurd h (by decide)
theorem sp_nmd_nat {sg : mm_S} (hI : sp_I sg) {s v t : Int32} (h : sp_nmd sg s v t = true) : ∃ a b c, a < sp_n sg ∧ a < 4 ∧ sp_th sg a b ∧ c < 5 ∧ s = nI a ∧ v = nI b ∧ t = nI c ∧ nN s = a ∧ nN v = b ∧ nN t = c := by
  simp only [sp_nmd, Bool.and_eq_true] at h
  obtain ⟨a, b, h1, h2, rfl, rfl, h3⟩ := sp_isV_nat hI h.1
  obtain ⟨c, h4, rfl⟩ := sp_in_t5 h.2
  have := h3.1
  exact ⟨a, b, c, h1, h2, h3, h4, rfl, rfl, rfl, nI_clamp (by omega), nI_clamp (by omega), nI_clamp (by omega)⟩
theorem sp_own {sg : mm_S} (hI : sp_I sg) {s u t : Nat} (hs : s < sp_n sg) (hu : sp_th sg s u) (ht : t < 5) (h4 : ¬ sg 6 (sp_e s u t) = 4) : ∃ g, g < 4 ∧ sg 4 (16 * s + u) = nI g := by
  have hs4 : s < 4 := by have := hI.i1.2; omega
  rcases (hI.i3 s hs).2 u hu with ⟨h0, -⟩ | ⟨w, g, -, -, -, h1, h2⟩
  · exact absurd ((hI.i5 s u t hs4 hu.1 ht).2.2 h0) h4
  · exact ⟨g, h1, h2⟩
theorem sp_okR_of {sg : mm_S} {e : Nat} {rule slack : Int32} {k : Int32} (hk : sg 6 e = k) (h : (k = 0 ∧ sp_in rule (-1000) 1000 = true ∧ sp_in slack 0 100 = true) ∨ (k = 1 ∧ sp_in rule 0 31 = true) ∨ (k = 2 ∧ sp_row rule = true)) : sp_okR sg e rule slack := by
  unfold sp_okR
  rw [hk]
  rcases h with ⟨rfl, h1, h2⟩ | ⟨rfl, h1⟩ | ⟨rfl, h1⟩
  · exact ⟨fun _ => ⟨h1, h2⟩, fun q => absurd q (by decide), fun q => absurd q (by decide)⟩
  · exact ⟨fun q => absurd q (by decide), fun _ => h1, fun q => absurd q (by decide)⟩
  · exact ⟨fun q => absurd q (by decide), fun q => absurd q (by decide), fun _ => h1⟩
def sp_both (sg : mm_S) (p s : Int32) : Bool := sp_in p 0 11 && sp_isS sg s
theorem sp_both_nat {sg : mm_S} (hI : sp_I sg) {p s : Int32} (h : sp_both sg p s = true) : ∃ a b, a < 12 ∧ b < sp_n sg ∧ b < 4 ∧ p = nI a ∧ s = nI b ∧ nN p = a ∧ nN s = b := by
  simp only [sp_both, Bool.and_eq_true] at h
  obtain ⟨a, h1, rfl⟩ := sp_in_p h.1
  obtain ⟨b, h2, h3, rfl⟩ := sp_isS_nat hI h.2
  exact ⟨a, b, h1, h2, h3, rfl, rfl, nI_clamp (by omega), nI_clamp (by omega)⟩
def sp_k (p s : Int32) : Nat := 12 * nN s + nN p
def sp_rMark (sg : mm_S) (k : Nat) : Int32 := if sg 13 k = 2 then sg 15 k else -1
def sp_rDue (sg : mm_S) (k : Nat) : Int32 := if sg 13 k = 0 then -1 else sp_due sg k
def sp_avS (sg : mm_S) (b n : Nat) : Int32 := sp_is (fun p => if sg 13 (b + p) = 2 then sg 15 (b + p) else 0) n
def sp_avN (sg : mm_S) (b n : Nat) : Int32 := sp_is (fun p => if sg 13 (b + p) = 2 then 1 else 0) n
def sp_avg (sg : mm_S) (b : Nat) : Int32 := if sp_avN sg b 3 = 0 then -1 else 100 * sp_avS sg b 3 / sp_avN sg b 3
def sp_thHand (sg : mm_S) (p s : Int32) : Int32 := if sp_both sg p s = true then (if sg 13 (sp_k p s) = 1 then 0 else 2) else 1
def sp_handS (sg : mm_S) (k : Nat) : mm_S := mm_up (mm_up sg 13 k 2) 15 k (sp_due sg k)
def sp_canO (sg : mm_S) (p s : Nat) : Bool := decide (sg 13 (12 * s + p) = 0) && decide (sg 11 (4 * s + p / 3) = 0)
def sp_thOpen (sg : mm_S) (p s : Int32) : Int32 := if sp_both sg p s = true then (if sp_canO sg (nN p) (nN s) = true then 0 else 2) else 1
def sp_openS (sg : mm_S) (p s : Nat) : mm_S := mm_up (mm_up sg 13 (12 * s + p) 1) 14 (12 * s + p) (sg 10 (4 * s + p / 3))
def sp_cs (sg : mm_S) (g s : Int32) : Bool := sp_in g 0 3 && sp_isS sg s
def sp_thClose (sg : mm_S) (g s : Int32) : Int32 := if sp_cs sg g s = true then (if sg 11 (4 * nN s + nN g) = 0 then 0 else 2) else 1
def sp_fgT (sg : mm_S) (k : Nat) : Nat → mm_S
  | 0 => mm_up sg 13 k 0
  | t + 1 => mm_up (mm_up (mm_up (mm_up (sp_fgT sg k t) 17 (5 * k + t) 0) 18 (5 * k + t) 0) 19 (5 * k + t) 0) 20 (5 * k + t) 0
def sp_clS (sg1 : mm_S) (b : Nat) : Nat → mm_S
  | 0 => sg1
  | p + 1 => if sp_clS sg1 b p 13 (b + p) = 1 then sp_fgT (sp_clS sg1 b p) (b + p) 5 else sp_clS sg1 b p
def sp_clN (sg1 : mm_S) (b n : Nat) : Int32 := sp_is (fun p => if sp_clS sg1 b p 13 (b + p) = 2 then 1 else 0) n
theorem sp_due_congr2 {sg sg' : mm_S} (h : ∀ j, j ≠ 13 → j ≠ 15 → j ≠ 16 → j < 22 → sg' j = sg j) (k : Nat) : sp_due sg' k = sp_due sg k := by
  refine sp_is_congr 5 (fun t _ => ?_)
  unfold sp_dueT
  have e3 := h 3 (by decide) (by decide) (by decide) (by decide)
  have e6 := h 6 (by decide) (by decide) (by decide) (by decide)
  rw [h 14 (by decide) (by decide) (by decide) (by decide), sp_has_congr e3 e6]
  cases sp_has sg (k / 12) (nN (sg 14 k)) t with
  | none => rfl
  | some u =>
    dsimp only
    unfold sp_gain sp_com
    rw [e6, h 7 (by decide) (by decide) (by decide) (by decide), h 8 (by decide) (by decide) (by decide) (by decide), h 9 (by decide) (by decide) (by decide) (by decide), h 17 (by decide) (by decide) (by decide) (by decide), h 18 (by decide) (by decide) (by decide) (by decide), h 19 (by decide) (by decide) (by decide) (by decide), h 20 (by decide) (by decide) (by decide) (by decide), h 21 (by decide) (by decide) (by decide) (by decide)]
/-- an open answer handed in -/
theorem sp_I.hand {sg : mm_S} (hI : sp_I sg) {k : Nat} (h : sg 13 k = 1) : sp_I (mm_up sg 13 k 2) := by
  refine ⟨hI.i1, hI.i2, hI.i3, hI.i4, hI.i5, hI.i6, hI.i7, fun s p hs hp => ?_, hI.i12, hI.i13⟩
  have h1 := hI.i9 s p hs hp
  by_cases e : 12 * s + p = k
  · rw [e] at h1 ⊢
    rcases h1 with ⟨h1, -⟩ | ⟨-, h2, h3⟩
    · rw [h] at h1
      exact absurd h1 (by decide)
    · exact Or.inr ⟨Or.inr mm_up_s, h2, h3⟩
  · rw [mm_up_x e]
    exact h1
