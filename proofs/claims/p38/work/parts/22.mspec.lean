/-! WHAT THE REFERENCE'S STATE SAYS, in pure words -/
def sp_is (f : Nat → Int32) : Nat → Int32
  | 0 => 0
  | n + 1 => sp_is f n + f n
theorem sp_is_congr {f g : Nat → Int32} : ∀ n : Nat, (∀ k, k < n → f k = g k) → sp_is f n = sp_is g n
  | 0, _ => rfl
  | n + 1, h => by rw [sp_is, sp_is, sp_is_congr n (fun k hk => h k (Nat.lt_succ_of_lt hk)), h n (Nat.lt_succ_self n)]
def sp_n (sg : mm_S) : Nat := (sg 1 0).toNatClampNeg
def sp_th (sg : mm_S) (s v : Nat) : Prop := v < 16 ∧ ¬ sg 2 (16 * s + v) = 0
def sp_e (s v t : Nat) : Nat := 5 * (16 * s + v) + t
/-- numbers of sheets; of versions; a version's parent; owners; heads; what a flag is -/
def sp_I1 (sg : mm_S) : Prop := sg 1 0 = nI (sp_n sg) ∧ sp_n sg ≤ 4
def sp_I2 (sg : mm_S) : Prop := ∀ s, s < sp_n sg → ∃ m, 1 ≤ m ∧ m ≤ 16 ∧ sg 5 s = nI m ∧ ∀ v, sp_th sg s v → v < m
def sp_I3 (sg : mm_S) : Prop := ∀ s, s < sp_n sg → sp_th sg s 0 ∧ ∀ v, sp_th sg s v → (v = 0 ∧ sg 3 (16 * s + v) = -1 ∧ sg 4 (16 * s + v) = -1) ∨ ∃ u g, u < v ∧ sg 3 (16 * s + v) = nI u ∧ sp_th sg s u ∧ g < 4 ∧ sg 4 (16 * s + v) = nI g
def sp_I4 (sg : mm_S) : Prop := (∀ x, x < 64 → sg 2 x = 0 ∨ sg 2 x = 1) ∧ (∀ x, x < 16 → sg 11 x = 0 ∨ sg 11 x = 1) ∧ ∀ x, x < 240 → sg 17 x = 0 ∨ sg 17 x = 1
def sp_I5 (sg : mm_S) : Prop := ∀ s v t, s < 4 → v < 16 → t < 5 → (∃ q, q ≤ 4 ∧ sg 6 (sp_e s v t) = nI q) ∧ (sg 2 (16 * s + v) = 0 → sg 6 (sp_e s v t) = 4) ∧ (v = 0 → sg 6 (sp_e s v t) = 4)
def sp_I6 (sg : mm_S) : Prop := ∀ e, e < 320 → (sg 6 e = 0 → sp_in (sg 7 e) 1 10 = true ∧ sp_in (sg 8 e) (-1000) 1000 = true ∧ sp_in (sg 9 e) 0 100 = true) ∧ (sg 6 e = 1 → sp_in (sg 7 e) 1 10 = true ∧ sp_in (sg 8 e) 0 31 = true) ∧ (sg 6 e = 2 → sp_in (sg 7 e) 1 10 = true ∧ sp_row (sg 8 e) = true)
def sp_I7 (sg : mm_S) : Prop := ∀ s g, s < sp_n sg → g < 4 → ∃ v, sg 10 (4 * s + g) = nI v ∧ sp_th sg s v
def sp_I9 (sg : mm_S) : Prop := ∀ s p, s < 4 → p < 12 → (sg 13 (12 * s + p) = 0 ∧ ∀ t, t < 5 → sg 17 (5 * (12 * s + p) + t) = 0 ∧ sg 19 (5 * (12 * s + p) + t) = 0 ∧ sg 20 (5 * (12 * s + p) + t) = 0) ∨ ((sg 13 (12 * s + p) = 1 ∨ sg 13 (12 * s + p) = 2) ∧ s < sp_n sg ∧ ∃ v, sg 14 (12 * s + p) = nI v ∧ sp_th sg s v)
def sp_I12 (sg : mm_S) : Prop := ∀ j, j < 240 → sp_in (sg 18 j) (-1000) 1000 = true ∧ (∃ r, r < 32 ∧ sg 19 j = nI r) ∧ (∃ w, w ≤ 12 ∧ sg 20 j = nI w) ∧ ∀ i, i < 12 → ∃ w, w < 32 ∧ sg 21 (12 * j + i) = nI w
def sp_I13 (sg : mm_S) : Prop := ∀ g, g < 4 → sp_in (sg 12 g) 0 1000 = true
def sp_I (sg : mm_S) : Prop := sp_I1 sg ∧ sp_I2 sg ∧ sp_I3 sg ∧ sp_I4 sg ∧ sp_I5 sg ∧ sp_I6 sg ∧ sp_I7 sg ∧ sp_I9 sg ∧ sp_I12 sg ∧ sp_I13 sg
section PI
variable {sg : mm_S}
theorem sp_I.i1 (h : sp_I sg) : sp_I1 sg := h.1
theorem sp_I.i2 (h : sp_I sg) : sp_I2 sg := h.2.1
theorem sp_I.i3 (h : sp_I sg) : sp_I3 sg := h.2.2.1
theorem sp_I.i4 (h : sp_I sg) : sp_I4 sg := h.2.2.2.1
theorem sp_I.i5 (h : sp_I sg) : sp_I5 sg := h.2.2.2.2.1
theorem sp_I.i6 (h : sp_I sg) : sp_I6 sg := h.2.2.2.2.2.1
theorem sp_I.i7 (h : sp_I sg) : sp_I7 sg := h.2.2.2.2.2.2.1
theorem sp_I.i9 (h : sp_I sg) : sp_I9 sg := h.2.2.2.2.2.2.2.1
theorem sp_I.i12 (h : sp_I sg) : sp_I12 sg := h.2.2.2.2.2.2.2.2.1
theorem sp_I.i13 (h : sp_I sg) : sp_I13 sg := h.2.2.2.2.2.2.2.2.2
end PI
/-- an Int32 between 0 and a bound is a number's -/
theorem sp_in_nat {v : Int32} {b : Nat} (hb : b < 2 ^ 31) (h : sp_in v 0 (nI b) = true) : ∃ a, a ≤ b ∧ v = nI a := by
  simp only [sp_in, Bool.and_eq_true, decide_eq_true_eq] at h
  obtain ⟨j, hj, rfl⟩ := nI_of (Int32.not_lt.mpr h.1)
  exact ⟨j, (nI_leI hj hb).mp h.2, rfl⟩
theorem sp_nat_in {a b : Nat} (hb : b < 2 ^ 31) (h : a ≤ b) : sp_in (nI a) 0 (nI b) = true := by
  simp only [sp_in, Bool.and_eq_true, decide_eq_true_eq]
  exact ⟨nI_pos' (by omega), nI_le h hb⟩
def sp_isS (sg : mm_S) (s : Int32) : Bool := sp_in s 0 (sg 1 0 - 1)
theorem sp_isS_nat {sg : mm_S} (hI : sp_I sg) {s : Int32} (h : sp_isS sg s = true) : ∃ a, a < sp_n sg ∧ a < 4 ∧ s = nI a := by
  unfold sp_isS at h
  obtain ⟨h1, h2⟩ := hI.i1
  rw [h1] at h
  rcases Nat.eq_zero_or_pos (sp_n sg) with h0 | h0
  · rw [h0] at h
    simp only [sp_in, Bool.and_eq_true, decide_eq_true_eq] at h
    exact absurd (Int32.le_trans h.1 h.2) (by decide)
  · rw [show (1 : Int32) = nI 1 from rfl, nI_sub h0] at h
    obtain ⟨a, ha, rfl⟩ := sp_in_nat (by omega) h
    exact ⟨a, by omega, by omega, rfl⟩
theorem sp_nat_isS {sg : mm_S} (hI : sp_I sg) {a : Nat} (h : a < sp_n sg) : sp_isS sg (nI a) = true := by
  unfold sp_isS
  obtain ⟨h1, h2⟩ := hI.i1
  rw [h1, show (1 : Int32) = nI 1 from rfl, nI_sub (by omega)]
  exact sp_nat_in (by omega) (by omega)
def sp_isV (sg : mm_S) (s v : Int32) : Bool := sp_isS sg s && sp_in v 0 15 && !decide (sg 2 (16 * s.toNatClampNeg + v.toNatClampNeg) = 0)
theorem sp_isV_nat {sg : mm_S} (hI : sp_I sg) {s v : Int32} (h : sp_isV sg s v = true) : ∃ a b, a < sp_n sg ∧ a < 4 ∧ s = nI a ∧ v = nI b ∧ sp_th sg a b := by
  simp only [sp_isV, Bool.and_eq_true, Bool.not_eq_true', decide_eq_false_iff_not] at h
  obtain ⟨a, h1, h2, rfl⟩ := sp_isS_nat hI h.1.1
  obtain ⟨b, h3, rfl⟩ := sp_in_nat (b := 15) (by decide) h.1.2
  rw [nI_clamp (by omega), nI_clamp (by omega)] at h
  exact ⟨a, b, h1, h2, rfl, rfl, by omega, h.2⟩
/-- the version whose entry tells a task -/
def sp_telF (sg : mm_S) (s t : Nat) : Nat → Nat → Option Nat
  | 0, _ => none
  | f + 1, v => if sg 6 (sp_e s v t) = 4 then (if sg 3 (16 * s + v) = -1 then none else sp_telF sg s t f (sg 3 (16 * s + v)).toNatClampNeg) else some v
def sp_tel (sg : mm_S) (s v t : Nat) : Option Nat := sp_telF sg s t 16 v
def sp_o (o : Option Nat) : Int32 := match o with
  | none => -1
  | some u => nI u
def sp_has (sg : mm_S) (s v t : Nat) : Option Nat := match sp_tel sg s v t with
  | none => none
  | some u => if sg 6 (sp_e s u t) = 3 then none else some u
theorem sp_telF_some {sg : mm_S} (hI : sp_I sg) {s t : Nat} (hs : s < sp_n sg) : ∀ (f v u : Nat), sp_th sg s v → sp_telF sg s t f v = some u → sp_th sg s u ∧ u ≤ v ∧ ¬ sg 6 (sp_e s u t) = 4
  | 0, v, u, _, h => by cases h
  | f + 1, v, u, hv, h => by
    unfold sp_telF at h
    by_cases h4 : sg 6 (sp_e s v t) = 4
    · rw [if_pos h4] at h
      rcases (hI.i3 s hs).2 v hv with ⟨-, h1, -⟩ | ⟨w, g, h1, h2, h3, -⟩
      · rw [if_pos h1] at h
        cases h
      · by_cases h5 : sg 3 (16 * s + v) = -1
        · rw [if_pos h5] at h
          cases h
        · rw [if_neg h5, h2, nI_clamp (by have := h3.1; omega)] at h
          obtain ⟨a, b, c⟩ := sp_telF_some hI hs f w u h3 h
          exact ⟨a, by omega, c⟩
    · rw [if_neg h4] at h
      cases h
      exact ⟨hv, Nat.le_refl _, h4⟩
theorem nI_m1 {n : Nat} (h : n < 2 ^ 31) : ¬ nI n = -1 := fun q => by
  have := congrArg Int32.toInt q
  rw [nI_toInt h] at this
  have h2 : (-1 : Int32).toInt = -1 := by decide
  omega
/-- more of the fuel changes nothing -/
theorem sp_telF_more {sg : mm_S} (hI : sp_I sg) {s t : Nat} (hs : s < sp_n sg) : ∀ (f g v : Nat), sp_th sg s v → v < f → v < g → sp_telF sg s t f v = sp_telF sg s t g v
  | 0, g, v, _, h, _ => absurd h (Nat.not_lt_zero v)
  | f + 1, 0, v, _, _, h => absurd h (Nat.not_lt_zero v)
  | f + 1, g + 1, v, hv, h1, h2 => by
    unfold sp_telF
    by_cases h4 : sg 6 (sp_e s v t) = 4
    · rw [if_pos h4, if_pos h4]
      rcases (hI.i3 s hs).2 v hv with ⟨-, h5, -⟩ | ⟨w, g', h5, h6, h7, -⟩
      · rw [if_pos h5, if_pos h5]
      · rw [h6, if_neg (nI_m1 (by have := h7.1; omega)), if_neg (nI_m1 (by have := h7.1; omega)), nI_clamp (by have := h7.1; omega)]
        exact sp_telF_more hI hs f g w h7 (by omega) (by omega)
    · rw [if_neg h4, if_neg h4]
theorem sp_tel_step {sg : mm_S} (hI : sp_I sg) {s v t w : Nat} (hs : s < sp_n sg) (hv : sp_th sg s v) (h4 : sg 6 (sp_e s v t) = 4) (h6 : sg 3 (16 * s + v) = nI w) (h7 : sp_th sg s w) (hw : w < v) : sp_tel sg s v t = sp_tel sg s w t := by
  have hv16 := hv.1
  unfold sp_tel
  rw [show sp_telF sg s t 16 v = sp_telF sg s t 15 w by
    rw [sp_telF, if_pos h4, h6, if_neg (nI_m1 (by omega)), nI_clamp (by omega)]]
  exact sp_telF_more hI hs 15 16 w h7 (by omega) (by omega)
theorem sp_tel_root {sg : mm_S} {s v t : Nat} (h4 : sg 6 (sp_e s v t) = 4) (h6 : sg 3 (16 * s + v) = -1) : sp_tel sg s v t = none := by
  rw [sp_tel, sp_telF, if_pos h4, if_pos h6]
theorem sp_tel_here {sg : mm_S} {s v t : Nat} (h4 : ¬ sg 6 (sp_e s v t) = 4) : sp_tel sg s v t = some v := by
  rw [sp_tel, sp_telF, if_neg h4]
theorem sp_tel_some {sg : mm_S} (hI : sp_I sg) {s v t u : Nat} (hs : s < sp_n sg) (hv : sp_th sg s v) (h : sp_tel sg s v t = some u) : sp_th sg s u ∧ u ≤ v ∧ ¬ sg 6 (sp_e s u t) = 4 := sp_telF_some hI hs 16 v u hv h
theorem sp_has_some {sg : mm_S} (hI : sp_I sg) {s v t u : Nat} (hs : s < sp_n sg) (hv : sp_th sg s v) (h : sp_has sg s v t = some u) : sp_th sg s u ∧ u ≤ v ∧ ¬ sg 6 (sp_e s u t) = 4 ∧ ¬ sg 6 (sp_e s u t) = 3 := by
  unfold sp_has at h
  cases hq : sp_tel sg s v t with
  | none => rw [hq] at h; cases h
  | some w =>
    rw [hq] at h
    dsimp only at h
    by_cases h3 : sg 6 (sp_e s w t) = 3
    · rw [if_pos h3] at h; cases h
    · rw [if_neg h3] at h
      cases h
      obtain ⟨a, b, c⟩ := sp_tel_some hI hs hv hq
      exact ⟨a, b, c, h3⟩
/-- what an entry takes; what an answer takes; what a group uses; whether more fits -/
def sp_cost (sg : mm_S) (e : Nat) : Int32 := if sg 6 e = 4 then 0 else if sg 6 e = 0 then 2 else if sg 6 e = 2 then nI (sp_len (sg 8 e)) else 1
def sp_tk (sg : mm_S) (k : Nat) : Int32 := ((if sg 17 k = 0 then 0 else 1) + (if sg 19 k = 0 then 0 else 1)) + sg 20 k
def sp_taken (sg : mm_S) (a : Nat) : Int32 := sp_is (fun t => sp_tk sg (5 * a + t)) 5
def sp_usE (sg : mm_S) (g : Int32) (k : Nat) : Int32 := if sg 2 (k / 5) = 0 then 0 else if sg 4 (k / 5) = g then sp_cost sg k else 0
def sp_usA (sg : mm_S) (g : Int32) (k : Nat) : Int32 := if nI (k % 12 / 3) = g then sp_taken sg k else 0
def sp_used (sg : mm_S) (g : Int32) : Int32 := sp_is (sp_usE sg g) 320 + sp_is (sp_usA sg g) 48
def sp_fits (sg : mm_S) (g : Nat) (more : Int32) : Bool := decide (more ≤ 0) || decide (sp_used sg (nI g) + more ≤ sg 12 g)
def sp_name (sg : mm_S) (g s t : Int32) : Bool := sp_in g 0 3 && sp_isS sg s && sp_in t 0 4
