/-! what is said -/
def sp_isSaid (kind said : Int32) : Bool := if kind = 0 then sp_in said (-1000) 1000 else if kind = 1 then sp_in said 0 4 else sp_in said 1 31
def sp_more (sg : mm_S) (kind : Int32) (a : Nat) (said : Int32) : Int32 :=
  if kind = 0 then (if sg 17 a = 0 then 1 else 0)
  else if kind = 1 then (if sg 19 a ^^^ (1 <<< (said &&& 31)) = 0 then 0 else 1) - (if sg 19 a = 0 then 0 else 1)
  else if sg 20 a = 12 then 99 else 1
def sp_trip (sg : mm_S) (p s t : Int32) : Bool := sp_both sg p s && sp_in t 0 4
def sp_ent (sg : mm_S) (k t : Nat) : Option Nat := if sg 13 k = 1 then sp_has sg (k / 12) (nN (sg 14 k)) t else none
def sp_sayB (sg : mm_S) (p s t u : Nat) (said : Int32) : Bool := !decide (sp_more sg (sg 6 (sp_e s u t)) (5 * (12 * s + p) + t) said = 99) && sp_fits sg (p / 3) (sp_more sg (sg 6 (sp_e s u t)) (5 * (12 * s + p) + t) said)
def sp_thSayN (sg : mm_S) (p s t : Nat) (said : Int32) : Int32 := match sp_ent sg (12 * s + p) t with
  | none => 3
  | some u => if sp_isSaid (sg 6 (sp_e s u t)) said = true then (if sp_sayB sg p s t u said = true then 0 else 3) else 2
def sp_thSay (sg : mm_S) (p s t said : Int32) : Int32 := if sp_trip sg p s t = true then sp_thSayN sg (nN p) (nN s) (nN t) said else 1
def sp_sayU (sg : mm_S) (kind : Int32) (a : Nat) (said : Int32) : mm_S :=
  if kind = 0 then mm_up (mm_up sg 17 a 1) 18 a said
  else if kind = 1 then mm_up sg 19 a (sg 19 a ^^^ (1 <<< (said &&& 31)))
  else mm_up (mm_up sg 21 (12 * a + nN (sg 20 a)) said) 20 a (sg 20 a + 1)
def sp_sayN (sg : mm_S) (p s t : Nat) (said : Int32) : mm_S := match sp_ent sg (12 * s + p) t with
  | none => sg
  | some u => sp_sayU sg (sg 6 (sp_e s u t)) (5 * (12 * s + p) + t) said
theorem sp_trip_nat {sg : mm_S} (hI : sp_I sg) {p s t : Int32} (h : sp_trip sg p s t = true) : ∃ a b c, a < 12 ∧ b < sp_n sg ∧ b < 4 ∧ c < 5 ∧ p = nI a ∧ s = nI b ∧ t = nI c ∧ nN p = a ∧ nN s = b ∧ nN t = c := by
  rw [sp_trip, Bool.and_eq_true] at h
  obtain ⟨a, b, h1, h2, h3, h4, h5, h6, h7⟩ := sp_both_nat hI h.1
  obtain ⟨c, h8, rfl⟩ := sp_in_t5 h.2
  exact ⟨a, b, c, h1, h2, h3, h8, h4, h5, rfl, h6, h7, nI_clamp (by omega)⟩
theorem sp_ent_some {sg : mm_S} (hI : sp_I sg) {s p t u : Nat} (hs4 : s < 4) (hp : p < 12) (h : sp_ent sg (12 * s + p) t = some u) : sg 13 (12 * s + p) = 1 ∧ s < sp_n sg ∧ ∃ v, sg 14 (12 * s + p) = nI v ∧ sp_th sg s v ∧ sp_has sg s v t = some u := by
  unfold sp_ent at h
  by_cases h1 : sg 13 (12 * s + p) = 1
  · rw [if_pos h1, show (12 * s + p) / 12 = s by omega] at h
    obtain ⟨h2, v, h3, h4⟩ := sp_handed hI (k := 12 * s + p) (by omega) (by rw [h1]; decide)
    rw [show (12 * s + p) / 12 = s by omega] at h2 h4
    have h5 := h4.1
    rw [h3, show nN (nI v) = v from nI_clamp (by omega)] at h
    exact ⟨h1, h2, v, h3, h4, h⟩
  · rw [if_neg h1] at h
    cases h
theorem sp_more_99 (sg : mm_S) (a : Nat) (said : Int32) (k : Int32) (h : ¬ k = 2) (hk : k = 0 ∨ k = 1 ∨ k = 2) : ¬ sp_more sg k a said = 99 := by
  unfold sp_more
  rcases hk with rfl | rfl | rfl
  · rw [if_pos rfl]
    split <;> decide
  · rw [if_neg (by decide), if_pos rfl]
    split <;> split <;> decide
  · exact absurd rfl h
