/-! what each call of the reference answers: which throw (0: none), the answer, the state behind it -/
/-- the end of a call of the reference's -/
def mm_P (cA : Nat → ClassId) (ad : Nat → Nat) (mo : Nat) (M0 : hm_M) (th r : Int32) (sg' : mm_S) : Option Value → hm_M → Prop := fun v M' => ∃ (ta' : mm_S) (x : Int32), mm_R cA sg' ta' ad mo M0 M' ∧ v = some (.int x) ∧ ta' 0 0 = th ∧ (th = 0 → x = r)
/-- the end of an inner method that writes in the rows to work in alone -/
def mm_W (cA : Nat → ClassId) (ad : Nat → Nat) (mo : Nat) (M0 : hm_M) (r : Int32) (sg ta : mm_S) : Option Value → hm_M → Prop := fun v M' => ∃ ta' : mm_S, mm_R cA sg ta' ad mo M0 M' ∧ v = some (.int r) ∧ ∀ j, j ≠ 22 → ta' j = ta j
theorem hm_bz {w : Int32} : hm_bI (!decide (w = 0)) = 0 ↔ w = 0 := by by_cases h : w = 0 <;> simp [hm_bI, h]
def sp_w (b : Bool) : Int32 := if b = true then 0 else 1
theorem sp_w_0 {b : Bool} : sp_w b = 0 ↔ b = true := by cases b <;> simp [sp_w]
abbrev nN (x : Int32) : Nat := x.toNatClampNeg
def sp_addS (sg : mm_S) : mm_S := mm_up (mm_up (mm_up (mm_up (mm_up sg 2 (16 * sp_n sg) 1) 3 (16 * sp_n sg) (-1)) 4 (16 * sp_n sg) (-1)) 5 (sp_n sg) 1) 1 0 (sg 1 0 + 1)
def sp_canRev (sg : mm_S) (g s : Nat) (more : Int32) : Bool := !decide (16 ≤ sg 5 s) && sp_fits sg g more
def sp_thSet (sg : mm_S) (g s t : Int32) (are : Bool) (more : Int32) : Int32 := if sp_name sg g s t = true then (if are = true then (if sp_canRev sg (nN g) (nN s) more = true then 0 else 3) else 2) else 1
def sp_revA (sg : mm_S) (g s t a : Nat) (kind pts rule slack : Int32) : mm_S := mm_up (mm_up (mm_up (mm_up (mm_up (mm_up (mm_up (mm_up (mm_up sg 2 a 1) 3 a (sg 10 (4 * s + g))) 4 a (nI g)) 5 s (sg 5 s + 1)) 10 (4 * s + g) (sg 5 s)) 6 (5 * a + t) kind) 7 (5 * a + t) pts) 8 (5 * a + t) rule) 9 (5 * a + t) slack
def sp_rev (sg : mm_S) (g s t : Nat) (kind pts rule slack : Int32) : mm_S := sp_revA sg g s t (16 * s + nN (sg 5 s)) kind pts rule slack
def sp_areN (points value slack : Int32) : Bool := sp_in points 1 10 && sp_in value (-1000) 1000 && sp_in slack 0 100
def sp_areC (points signs : Int32) : Bool := sp_in points 1 10 && sp_in signs 0 31
def sp_areW (points words : Int32) : Bool := sp_in points 1 10 && sp_row words
def sp_hasB (o : Option Nat) : Bool := o.isSome
def sp_thDrop (sg : mm_S) (g s t : Int32) : Int32 := if sp_name sg g s t = true then (if (sp_hasB (sp_has sg (nN s) (nN (sg 10 (4 * nN s + nN g))) (nN t)) && sp_canRev sg (nN g) (nN s) 1) = true then 0 else 2) else 1
def sp_thAdopt (sg : mm_S) (g s v : Int32) : Int32 := sp_w (sp_in g 0 3 && sp_isV sg s v)
def sp_vers (sg : mm_S) (s : Nat) : Int32 := sp_is (fun v => if sg 2 (16 * s + v) = 0 then 0 else 1) 16
def sp_thTask (sg : mm_S) (s v t : Int32) : Int32 := sp_w (sp_isV sg s v && sp_in t 0 4)
def sp_kind (sg : mm_S) (s v t : Nat) : Int32 := match sp_has sg s v t with
  | none => -1
  | some u => sg 6 (sp_e s u t)
def sp_ptT (sg : mm_S) (s v t : Nat) : Int32 := match sp_has sg s v t with
  | none => 0
  | some u => sg 7 (sp_e s u t)
def sp_pts (sg : mm_S) (s v : Nat) : Int32 := sp_is (sp_ptT sg s v) 5
def sp_thQuota (g q : Int32) : Int32 := if sp_in g 0 3 = true then (if sp_in q 0 1000 = true then 0 else 2) else 1
theorem sp_in_g {g : Int32} (h : sp_in g 0 3 = true) : ∃ a, a < 4 ∧ g = nI a := by
  obtain ⟨a, h1, h2⟩ := sp_in_nat (b := 3) (by decide) h
  exact ⟨a, by omega, h2⟩
theorem sp_in_t5 {t : Int32} (h : sp_in t 0 4 = true) : ∃ a, a < 5 ∧ t = nI a := by
  obtain ⟨a, h1, h2⟩ := sp_in_nat (b := 4) (by decide) h
  exact ⟨a, by omega, h2⟩
theorem sp_in_p {t : Int32} (h : sp_in t 0 11 = true) : ∃ a, a < 12 ∧ t = nI a := by
  obtain ⟨a, h1, h2⟩ := sp_in_nat (b := 11) (by decide) h
  exact ⟨a, by omega, h2⟩
theorem sp_name_nat {sg : mm_S} (hI : sp_I sg) {g s t : Int32} (h : sp_name sg g s t = true) : ∃ a b c, a < 4 ∧ b < sp_n sg ∧ b < 4 ∧ c < 5 ∧ g = nI a ∧ s = nI b ∧ t = nI c := by
  simp only [sp_name, Bool.and_eq_true] at h
  obtain ⟨a, h1, rfl⟩ := sp_in_g h.1.1
  obtain ⟨b, h2, h3, rfl⟩ := sp_isS_nat hI h.1.2
  obtain ⟨c, h4, rfl⟩ := sp_in_t5 h.2
  exact ⟨a, b, c, h1, h2, h3, h4, rfl, rfl, rfl⟩
/-- below 16 versions were made: the next one's number -/
theorem sp_made {sg : mm_S} (hI : sp_I sg) {s : Nat} (hs : s < sp_n sg) (h : ¬ (16 : Int32) ≤ sg 5 s) : ∃ m, 1 ≤ m ∧ m < 16 ∧ sg 5 s = nI m ∧ (∀ v, sp_th sg s v → v < m) ∧ nN (sg 5 s) = m := by
  obtain ⟨m, h1, h2, h3, h4⟩ := hI.i2 s hs
  rw [h3] at h ⊢
  refine ⟨m, h1, ?_, rfl, h4, nI_clamp (by omega)⟩
  rcases Nat.lt_or_ge m 16 with q | q
  · exact q
  · exact absurd (nI_le q (by omega)) h
