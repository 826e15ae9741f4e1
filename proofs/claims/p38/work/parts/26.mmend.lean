/-! mends, in pure words -/
theorem sp_k012 {sg : mm_S} (hI : sp_I sg) {s v t : Nat} (hs : s < 4) (hv : v < 16) (ht : t < 5) (h4 : ¬ sg 6 (sp_e s v t) = 4) (h3 : ¬ sg 6 (sp_e s v t) = 3) : sg 6 (sp_e s v t) = 0 ∨ sg 6 (sp_e s v t) = 1 ∨ sg 6 (sp_e s v t) = 2 := by
  obtain ⟨q, hq, he⟩ := (hI.i5 s v t hs hv ht).1
  rw [he] at h4 h3 ⊢
  rcases (show q = 0 ∨ q = 1 ∨ q = 2 ∨ q = 3 ∨ q = 4 by omega) with rfl | rfl | rfl | rfl | rfl
  · exact Or.inl rfl
  · exact Or.inr (Or.inl rfl)
  · exact Or.inr (Or.inr rfl)
  · exact absurd rfl h3
  · exact absurd rfl h4
def sp_men (sg : mm_S) (s v t : Nat) (kind : Int32) : Option Nat := match sp_has sg s v t with
  | none => none
  | some u => if sg 6 (sp_e s u t) = kind then some u else none
theorem sp_men_some {sg : mm_S} (hI : sp_I sg) {s v t u : Nat} {kind : Int32} (hs : s < sp_n sg) (hv : sp_th sg s v) (h : sp_men sg s v t kind = some u) : sp_has sg s v t = some u ∧ sp_th sg s u ∧ sg 6 (sp_e s u t) = kind := by
  unfold sp_men at h
  cases hq : sp_has sg s v t with
  | none => rw [hq] at h; cases h
  | some w =>
    rw [hq] at h
    dsimp only at h
    by_cases hk : sg 6 (sp_e s w t) = kind
    · rw [if_pos hk] at h
      cases h
      exact ⟨rfl, (sp_has_some hI hs hv hq).1, hk⟩
    · rw [if_neg hk] at h
      cases h
/-- what the due marks rest on -/
theorem sp_telF_congr {sg sg' : mm_S} (h3 : sg' 3 = sg 3) (h6 : sg' 6 = sg 6) {s t : Nat} : ∀ (f v : Nat), sp_telF sg' s t f v = sp_telF sg s t f v
  | 0, _ => rfl
  | f + 1, v => by
    unfold sp_telF
    rw [h3, h6, sp_telF_congr h3 h6 f]
theorem sp_has_congr {sg sg' : mm_S} (h3 : sg' 3 = sg 3) (h6 : sg' 6 = sg 6) (s v t : Nat) : sp_has sg' s v t = sp_has sg s v t := by
  unfold sp_has sp_tel
  rw [sp_telF_congr h3 h6, h6]
theorem sp_due_congr {sg sg' : mm_S} (h : ∀ j, j ≠ 15 → j ≠ 16 → j < 22 → sg' j = sg j) (k : Nat) : sp_due sg' k = sp_due sg k := by
  have e3 := h 3 (by decide) (by decide) (by decide)
  have e6 := h 6 (by decide) (by decide) (by decide)
  refine sp_is_congr 5 (fun t _ => ?_)
  unfold sp_dueT
  rw [h 14 (by decide) (by decide) (by decide), sp_has_congr e3 e6]
  cases sp_has sg (k / 12) (nN (sg 14 k)) t with
  | none => rfl
  | some u =>
    dsimp only
    unfold sp_gain sp_com
    rw [e6, h 7 (by decide) (by decide) (by decide), h 8 (by decide) (by decide) (by decide), h 9 (by decide) (by decide) (by decide), h 17 (by decide) (by decide) (by decide), h 18 (by decide) (by decide) (by decide), h 19 (by decide) (by decide) (by decide), h 20 (by decide) (by decide) (by decide), h 21 (by decide) (by decide) (by decide)]
theorem sp_I.congr {sg sg' : mm_S} (h : ∀ j, j ≠ 15 → j ≠ 16 → j < 22 → sg' j = sg j) (hI : sp_I sg) : sp_I sg' := by
  have e1 := h 1 (by decide) (by decide) (by decide)
  have e2 := h 2 (by decide) (by decide) (by decide)
  have e3 := h 3 (by decide) (by decide) (by decide)
  have e4 := h 4 (by decide) (by decide) (by decide)
  have e5 := h 5 (by decide) (by decide) (by decide)
  have e6 := h 6 (by decide) (by decide) (by decide)
  have e7 := h 7 (by decide) (by decide) (by decide)
  have e8 := h 8 (by decide) (by decide) (by decide)
  have e9 := h 9 (by decide) (by decide) (by decide)
  have e10 := h 10 (by decide) (by decide) (by decide)
  have e11 := h 11 (by decide) (by decide) (by decide)
  have e12 := h 12 (by decide) (by decide) (by decide)
  have e13 := h 13 (by decide) (by decide) (by decide)
  have e14 := h 14 (by decide) (by decide) (by decide)
  have e17 := h 17 (by decide) (by decide) (by decide)
  have e18 := h 18 (by decide) (by decide) (by decide)
  have e19 := h 19 (by decide) (by decide) (by decide)
  have e20 := h 20 (by decide) (by decide) (by decide)
  have e21 := h 21 (by decide) (by decide) (by decide)
  unfold sp_I sp_I1 sp_I2 sp_I3 sp_I4 sp_I5 sp_I6 sp_I7 sp_I9 sp_I12 sp_I13 sp_n sp_th at hI ⊢
  rw [e1, e2, e3, e4, e5, e6, e7, e8, e9, e10, e11, e12, e13, e14, e17, e18, e19, e20, e21]
  exact hI
/-- a rule in its place changed for another of its kind -/
def sp_rul (sg : mm_S) (e : Nat) (rule slack : Int32) : mm_S := mm_up (mm_up sg 8 e rule) 9 e slack
def sp_okR (sg : mm_S) (e : Nat) (rule slack : Int32) : Prop := (sg 6 e = 0 → sp_in rule (-1000) 1000 = true ∧ sp_in slack 0 100 = true) ∧ (sg 6 e = 1 → sp_in rule 0 31 = true) ∧ (sg 6 e = 2 → sp_row rule = true)
theorem sp_I.rul {sg : mm_S} (hI : sp_I sg) {e : Nat} {rule slack : Int32} (hok : sp_okR sg e rule slack) : sp_I (sp_rul sg e rule slack) := by
  have eq : ∀ j, j ≠ 8 → j ≠ 9 → sp_rul sg e rule slack j = sg j := fun j h8 h9 => (mm_up_j h9).trans (mm_up_j h8)
  refine ⟨hI.i1, hI.i2, hI.i3, hI.i4, hI.i5, fun e' he' => ?_, hI.i7, hI.i9, hI.i12, hI.i13⟩
  obtain ⟨h0, h1, h2⟩ := hI.i6 e' he'
  rw [eq 6 (by decide) (by decide), eq 7 (by decide) (by decide)]
  by_cases hx : e' = e
  · subst hx
    have h8 : sp_rul sg e' rule slack 8 e' = rule := by
      show mm_up (mm_up sg 8 e' rule) 9 e' slack 8 e' = rule
      rw [mm_up_j (by decide), mm_up_s]
    have h9 : sp_rul sg e' rule slack 9 e' = slack := mm_up_s
    rw [h8, h9]
    exact ⟨fun q => ⟨(h0 q).1, hok.1 q⟩, fun q => ⟨(h1 q).1, hok.2.1 q⟩, fun q => ⟨(h2 q).1, hok.2.2 q⟩⟩
  · have h8 : sp_rul sg e rule slack 8 e' = sg 8 e' := by
      show mm_up (mm_up sg 8 e rule) 9 e slack 8 e' = _
      rw [mm_up_j (by decide), mm_up_x hx]
    have h9 : sp_rul sg e rule slack 9 e' = sg 9 e' := by
      show mm_up (mm_up sg 8 e rule) 9 e slack 9 e' = _
      rw [mm_up_x hx, mm_up_j (by decide)]
    rw [h8, h9]
    exact ⟨h0, h1, h2⟩
/-- whether the answer k has another due mark behind a mend; the states as the answers are gone through -/
def sp_chg (sg sg1 : mm_S) (k : Nat) : Bool := decide (sg 13 k = 2) && !decide (sp_due sg1 k = sp_due sg k)
def sp_cls (sg : mm_S) (k : Nat) : Int32 := sg 11 (4 * (k / 12) + k % 12 / 3)
def sp_mdS (sg sg1 : mm_S) (s : Nat) : Nat → mm_S
  | 0 => sg1
  | p + 1 => if sp_chg sg sg1 (12 * s + p) = true then mm_up (mm_up (sp_mdS sg sg1 s p) 16 (12 * s + p) (sp_mdS sg sg1 s p 16 (12 * s + p) + (if sp_cls sg (12 * s + p) = 0 then 0 else 1))) 15 (12 * s + p) (if sp_cls sg (12 * s + p) = 0 then sp_due sg1 (12 * s + p) else sp_mdS sg sg1 s p 15 (12 * s + p)) else sp_mdS sg sg1 s p
def sp_mdN (sg sg1 : mm_S) (s p : Nat) : Int32 := sp_is (fun p => if sp_chg sg sg1 (12 * s + p) = true then 1 else 0) p
theorem sp_mdS_j {sg sg1 : mm_S} {s : Nat} : ∀ (p j : Nat), j ≠ 15 → j ≠ 16 → sp_mdS sg sg1 s p j = sg1 j
  | 0, _, _, _ => rfl
  | p + 1, j, h5, h6 => by
    unfold sp_mdS
    split
    · rw [mm_up_j h5, mm_up_j h6, sp_mdS_j p j h5 h6]
    · exact sp_mdS_j p j h5 h6
def sp_mend (sg : mm_S) (s e : Nat) (rule slack : Int32) : mm_S := sp_mdS sg (sp_rul sg e rule slack) s 12
def sp_mendN (sg : mm_S) (s e : Nat) (rule slack : Int32) : Int32 := sp_mdN sg (sp_rul sg e rule slack) s 12
theorem sp_handed {sg : mm_S} (hI : sp_I sg) {k : Nat} (hk : k < 48) (h : ¬ sg 13 k = 0) : k / 12 < sp_n sg ∧ ∃ v, sg 14 k = nI v ∧ sp_th sg (k / 12) v := by
  have h1 := hI.i9 (k / 12) (k % 12) (by omega) (by omega)
  rw [show 12 * (k / 12) + k % 12 = k by omega] at h1
  rcases h1 with ⟨h1, -⟩ | ⟨-, h2, h3⟩
  · exact absurd h1 h
  · exact ⟨h2, h3⟩
