/-! THE REFERENCE'S STATE: sg j x is the number at the place x of the row in the field j (a field's own number: x = 0); ta the same for the rows to work in (0 and 22 to 26) -/
abbrev mm_S : Type := Nat → Nat → Int32
def mm_len : Nat → Nat
  | 2 => 64 | 3 => 64 | 4 => 64 | 5 => 4 | 6 => 320 | 7 => 320 | 8 => 320 | 9 => 320 | 10 => 16 | 11 => 16 | 12 => 4 | 13 => 48 | 14 => 48 | 15 => 48 | 16 => 48 | 17 => 240 | 18 => 240 | 19 => 240 | 20 => 240 | 21 => 2880 | 22 => 13 | 23 => 48 | 24 => 50 | _ => 50
def mm_t : Nat → Nat
  | 2 => 1 | 11 => 1 | 17 => 1 | _ => 0
def mm_ar (j : Nat) : Bool := decide (2 ≤ j) && decide (j < 27) && !(j == 25)
def mm_scr (j : Nat) : Bool := j == 0 || decide (22 ≤ j)
def mm_c (sg ta : mm_S) (j : Nat) : Nat → Int32 := if mm_scr j = true then ta j else sg j
def mm_up (sg : mm_S) (j x : Nat) (v : Int32) : mm_S := fun j' x' => if j' = j ∧ x' = x then v else sg j' x'
theorem mm_up_s {sg : mm_S} {j x : Nat} {v : Int32} : mm_up sg j x v j x = v := if_pos ⟨rfl, rfl⟩
theorem mm_up_j {sg : mm_S} {j x j' : Nat} {v : Int32} (h : j' ≠ j) : mm_up sg j x v j' = sg j' := funext fun _ => if_neg (fun q => h q.1)
theorem mm_up_x {sg : mm_S} {j x x' : Nat} {v : Int32} (h : x' ≠ x) : mm_up sg j x v j x' = sg j x' := if_neg (fun q => h q.2)
theorem mm_up_row {sg : mm_S} {j x : Nat} {v : Int32} : mm_up sg j x v j = upd (sg j) x v := funext fun x' => by
  unfold mm_up upd
  by_cases h : x' = x <;> simp [h]
def mm_fs (sg ta : mm_S) (ad : Nat → Nat) : List Value := [.int (ta 0 0), .int (sg 1 0), .ref (ad 2), .ref (ad 3), .ref (ad 4), .ref (ad 5), .ref (ad 6), .ref (ad 7), .ref (ad 8), .ref (ad 9), .ref (ad 10), .ref (ad 11), .ref (ad 12), .ref (ad 13), .ref (ad 14), .ref (ad 15), .ref (ad 16), .ref (ad 17), .ref (ad 18), .ref (ad 19), .ref (ad 20), .ref (ad 21), .ref (ad 22), .ref (ad 23), .ref (ad 24), .int (ta 25 0), .ref (ad 26)]
/-- the memory M holds the reference's object mo in this state; all else is as in M0 -/
def mm_R (cA : Nat → ClassId) (sg ta : mm_S) (ad : Nat → Nat) (mo : Nat) (M0 M : hm_M) : Prop :=
  M mo = some (.inr (6, mm_fs sg ta ad)) ∧ (∀ j, mm_ar j = true → M (ad j) = some (.inl (cA (mm_t j), mm_len j, .inl (mm_c sg ta j)))) ∧ (∀ i j, mm_ar i = true → mm_ar j = true → ad i = ad j → i = j) ∧ ∀ a, a ≠ mo → (∀ j, mm_ar j = true → a ≠ ad j) → M a = M0 a
theorem mm_R.ne {cA : Nat → ClassId} {sg ta : mm_S} {ad : Nat → Nat} {mo : Nat} {M0 M : hm_M} (h : mm_R cA sg ta ad mo M0 M) {j : Nat} (hj : mm_ar j = true) : mo ≠ ad j := fun e => by
  have h1 := h.2.1 j hj
  rw [← e, h.1] at h1
  cases h1
theorem mm_c_up {sg ta : mm_S} {j x : Nat} {v : Int32} (hs : mm_scr j = false) (i : Nat) : mm_c (mm_up sg j x v) ta i = if i = j then upd (mm_c sg ta j) x v else mm_c sg ta i := by
  unfold mm_c
  by_cases h : i = j
  · subst h
    rw [if_neg (by rw [hs]; decide), if_pos rfl, if_neg (by rw [hs]; decide), mm_up_row]
  · rw [if_neg h, mm_up_j h]
theorem mm_c_upT {sg ta : mm_S} {j x : Nat} {v : Int32} (hs : mm_scr j = true) (i : Nat) : mm_c sg (mm_up ta j x v) i = if i = j then upd (mm_c sg ta j) x v else mm_c sg ta i := by
  unfold mm_c
  by_cases h : i = j
  · subst h
    rw [if_pos hs, if_pos rfl, if_pos hs, mm_up_row]
  · rw [if_neg h, mm_up_j h]
/-- one row of the reference's written -/
theorem mm_R.row {cA : Nat → ClassId} {sg ta sg' ta' : mm_S} {ad : Nat → Nat} {mo : Nat} {M0 M : hm_M} (h : mm_R cA sg ta ad mo M0 M) {j x : Nat} {v : Int32} (hj : mm_ar j = true) (hf : mm_fs sg' ta' ad = mm_fs sg ta ad) (hc : ∀ i, mm_c sg' ta' i = if i = j then upd (mm_c sg ta j) x v else mm_c sg ta i) : mm_R cA sg' ta' ad mo M0 (hm_up M (ad j) (.inl (cA (mm_t j), mm_len j, .inl (upd (mm_c sg ta j) x v)))) := by
  refine ⟨?_, fun i hi => ?_, h.2.2.1, fun a h1 h2 => ?_⟩
  · rw [hm_up_n (h.ne hj), hf]
    exact h.1
  · rw [hc i]
    by_cases e : i = j
    · subst e
      rw [hm_up_s, if_pos rfl]
    · rw [hm_up_n (fun q => e (h.2.2.1 i j hi hj q)), if_neg e]
      exact h.2.1 i hi
  · rw [hm_up_n (h2 j hj)]
    exact h.2.2.2 a h1 h2
theorem mm_R.obj {cA : Nat → ClassId} {sg ta sg' ta' : mm_S} {ad : Nat → Nat} {mo : Nat} {M0 M : hm_M} (h : mm_R cA sg ta ad mo M0 M) (hc : ∀ i, mm_ar i = true → mm_c sg' ta' i = mm_c sg ta i) : mm_R cA sg' ta' ad mo M0 (hm_up M mo (.inr (6, mm_fs sg' ta' ad))) := by
  refine ⟨hm_up_s, fun i hi => ?_, h.2.2.1, fun a h1 h2 => ?_⟩
  · rw [hm_up_n (Ne.symm (h.ne hi)), hc i hi]
    exact h.2.1 i hi
  · rw [hm_up_n h1]
    exact h.2.2.2 a h1 h2
theorem nI_mul (a b : Nat) : nI a * nI b = nI (a * b) := (Int32.ofNat_mul a b).symm
theorem mm_m2 (a : Nat) : 2 * nI a = nI (2 * a) := nI_mul 2 a
theorem mm_m3 (a : Nat) : 3 * nI a = nI (3 * a) := nI_mul 3 a
theorem mm_m4 (a : Nat) : 4 * nI a = nI (4 * a) := nI_mul 4 a
theorem mm_m5 (a : Nat) : 5 * nI a = nI (5 * a) := nI_mul 5 a
theorem mm_m12 (a : Nat) : 12 * nI a = nI (12 * a) := nI_mul 12 a
theorem mm_m16 (a : Nat) : 16 * nI a = nI (16 * a) := nI_mul 16 a
theorem mm_a1 (a : Nat) : nI a + 1 = nI (a + 1) := nI_add a 1
theorem mm_a2 (a : Nat) : nI a + 2 = nI (a + 2) := nI_add a 2
theorem mm_a3 (a : Nat) : nI a + 3 = nI (a + 3) := nI_add a 3
theorem mm_a5 (a : Nat) : nI a + 5 = nI (a + 5) := nI_add a 5
theorem mm_a12 (a : Nat) : nI a + 12 = nI (a + 12) := nI_add a 12
theorem nI_divN {a b : Nat} (ha : a < 2 ^ 31) (hb : b < 2 ^ 31) (h0 : b ≠ 0) : nI a / nI b = nI (a / b) := by
  apply Int32.toInt_inj.mp
  have h1 : nI b ≠ -1 := fun q => by
    have := congrArg Int32.toInt q
    rw [nI_toInt hb] at this
    have h2 : (-1 : Int32).toInt = -1 := by decide
    omega
  rw [Int32.toInt_div_of_ne_right _ _ h1, nI_toInt ha, nI_toInt hb, nI_toInt (Nat.lt_of_le_of_lt (Nat.div_le_self a b) ha)]
  exact (Int.ofNat_tdiv a b).symm
theorem mm_d3 {a : Nat} (h : a < 2 ^ 31) : nI a / 3 = nI (a / 3) := nI_divN (b := 3) h (by decide) (by decide)
theorem mm_d5 {a : Nat} (h : a < 2 ^ 31) : nI a / 5 = nI (a / 5) := nI_divN (b := 5) h (by decide) (by decide)
theorem mm_d12 {a : Nat} (h : a < 2 ^ 31) : nI a / 12 = nI (a / 12) := nI_divN (b := 12) h (by decide) (by decide)
theorem mm_d1000 {a : Nat} (h : a < 2 ^ 31) : nI a / 1000 = nI (a / 1000) := nI_divN (b := 1000) h (by decide) (by decide)
theorem nI_sub {a b : Nat} (h : b ≤ a) : nI a - nI b = nI (a - b) := by
  obtain ⟨c, rfl⟩ := Nat.exists_eq_add_of_le h
  rw [← nI_add, Nat.add_sub_cancel_left, Int32.add_comm, Int32.add_sub_cancel]
theorem mm_remN {a b : Nat} (ha : a < 2 ^ 31) (hb : b < 2 ^ 31) (h0 : b ≠ 0) : nI a - nI a / nI b * nI b = nI (a % b) := by
  rw [nI_divN ha hb h0, nI_mul, nI_sub (Nat.div_mul_le_self a b)]
  congr 1
  have := Nat.div_add_mod a b
  rw [Nat.mul_comm] at this
  omega
theorem mm_r12 {a : Nat} (h : a < 2 ^ 31) : nI a - nI a / 12 * 12 = nI (a % 12) := mm_remN (b := 12) h (by decide) (by decide)
theorem mm_r16 {a : Nat} (h : a < 2 ^ 31) : nI a - nI a / 16 * 16 = nI (a % 16) := mm_remN (b := 16) h (by decide) (by decide)
theorem mm_r1000 {a : Nat} (h : a < 2 ^ 31) : nI a - nI a / 1000 * 1000 = nI (a % 1000) := mm_remN (b := 1000) h (by decide) (by decide)
theorem mm_in {i : Int32} {x N : Nat} (hx : i = nI x) (h : x < N) (hN : N < 2 ^ 31) : vp_in i N ∧ i.toNatClampNeg = x := by
  subst hx
  exact ⟨nI_in h hN, nI_clamp (by omega)⟩
theorem mm_len_lt (j : Nat) : mm_len j < 2 ^ 31 := by
  unfold mm_len
  split <;> decide
section MR
variable {C : hm_C} {own : String} {cc : ByteArray} {nL : Nat} {ret : Option FieldType} {nm : String} {rm : Room} {cA : Nat → ClassId} {k n : Nat} {Q : State → Prop} {M M0 : hm_M} {pc : Nat} {L : List (Option Value)} {st : List Value} {sg ta : mm_S} {ad : Nat → Nat} {mo : Nat}
theorem mm_getS {idx : Nat} {rt : FieldType} {fin ini : Bool} (X : hm_X C own cc nL ret nm rm cA) {j : Nat} (lF : hm_lF own idx 6 j rt fin ini) (d : decode cc pc = .ok (.getfield idx, 3)) (hR : mm_R cA sg ta ad mo M0 M) (j' : Nat) {v : Int32} (hj : (mm_fs sg ta ad)[j]? = some (.int v)) (kk : hm_W C k n Q M (pc + 3) L (.int v :: st)) : hm_W C k n Q M pc L (.ref mo :: st) := hr_get X lF d hR.1 hj kk
theorem mm_getA {idx : Nat} {rt : FieldType} {fin ini : Bool} (X : hm_X C own cc nL ret nm rm cA) {j : Nat} (lF : hm_lF own idx 6 j rt fin ini) (d : decode cc pc = .ok (.getfield idx, 3)) (hR : mm_R cA sg ta ad mo M0 M) (j' : Nat) (hj : (mm_fs sg ta ad)[j]? = some (.ref (ad j))) (kk : hm_W C k n Q M (pc + 3) L (.ref (ad j) :: st)) : hm_W C k n Q M pc L (.ref mo :: st) := hr_get X lF d hR.1 hj kk
theorem mm_iald {j : Nat} {i : Int32} (x : Nat) (X : hm_X C own cc nL ret nm rm cA) (d : decode cc pc = .ok (.iaload, 1)) (hR : mm_R cA sg ta ad mo M0 M) (hj : (mm_ar j && (mm_t j == 0) && !mm_scr j) = true) (hx : i = nI x) (hl : x < mm_len j) (kk : hm_W C k n Q M (pc + 1) L (.int (sg j x) :: st)) : hm_W C k n Q M pc L (.int i :: .ref (ad j) :: st) := by
  simp only [Bool.and_eq_true, beq_iff_eq, Bool.not_eq_true'] at hj
  obtain ⟨h1, h2⟩ := mm_in hx hl (mm_len_lt j)
  have hM := hR.2.1 j hj.1.1
  rw [hj.1.2] at hM
  refine hr_iald X d hM h1 ?_
  rw [h2, mm_c, if_neg (by rw [hj.2]; decide)]
  exact kk
theorem mm_ialdT {j : Nat} {i : Int32} (x : Nat) (X : hm_X C own cc nL ret nm rm cA) (d : decode cc pc = .ok (.iaload, 1)) (hR : mm_R cA sg ta ad mo M0 M) (hj : (mm_ar j && (mm_t j == 0) && mm_scr j) = true) (hx : i = nI x) (hl : x < mm_len j) (kk : hm_W C k n Q M (pc + 1) L (.int (ta j x) :: st)) : hm_W C k n Q M pc L (.int i :: .ref (ad j) :: st) := by
  simp only [Bool.and_eq_true, beq_iff_eq] at hj
  obtain ⟨h1, h2⟩ := mm_in hx hl (mm_len_lt j)
  have hM := hR.2.1 j hj.1.1
  rw [hj.1.2] at hM
  refine hr_iald X d hM h1 ?_
  rw [h2, mm_c, if_pos hj.2]
  exact kk
theorem mm_zald {j : Nat} {i : Int32} (x : Nat) (X : hm_X C own cc nL ret nm rm cA) (d : decode cc pc = .ok (.baload, 1)) (hR : mm_R cA sg ta ad mo M0 M) (hj : (mm_ar j && (mm_t j == 1) && !mm_scr j) = true) (hx : i = nI x) (hl : x < mm_len j) (kk : hm_W C k n Q M (pc + 1) L (.int (sg j x) :: st)) : hm_W C k n Q M pc L (.int i :: .ref (ad j) :: st) := by
  simp only [Bool.and_eq_true, beq_iff_eq, Bool.not_eq_true'] at hj
  obtain ⟨h1, h2⟩ := mm_in hx hl (mm_len_lt j)
  have hM := hR.2.1 j hj.1.1
  rw [hj.1.2] at hM
  refine hr_zald X d hM h1 ?_
  rw [h2, mm_c, if_neg (by rw [hj.2]; decide)]
  exact kk
theorem mm_fs_up {j x : Nat} {v : Int32} (h : mm_ar j = true) : mm_fs (mm_up sg j x v) ta ad = mm_fs sg ta ad := by
  unfold mm_fs
  rw [mm_up_j (j' := 1) (fun q => by subst q; revert h; decide)]
theorem mm_fs_upT {j x : Nat} {v : Int32} (h : mm_ar j = true) : mm_fs sg (mm_up ta j x v) ad = mm_fs sg ta ad := by
  unfold mm_fs
  rw [mm_up_j (j' := 0) (fun q => by subst q; revert h; decide), mm_up_j (j' := 25) (fun q => by subst q; revert h; decide)]
theorem mm_iast {j : Nat} {i v : Int32} (x : Nat) (X : hm_X C own cc nL ret nm rm cA) (d : decode cc pc = .ok (.iastore, 1)) (hR : mm_R cA sg ta ad mo M0 M) (hj : (mm_ar j && (mm_t j == 0) && !mm_scr j) = true) (hx : i = nI x) (hl : x < mm_len j) (kk : ∀ M' : hm_M, mm_R cA (mm_up sg j x v) ta ad mo M0 M' → hm_W C k n Q M' (pc + 1) L st) : hm_W C k n Q M pc L (.int v :: .int i :: .ref (ad j) :: st) := by
  simp only [Bool.and_eq_true, beq_iff_eq, Bool.not_eq_true'] at hj
  obtain ⟨h1, h2⟩ := mm_in hx hl (mm_len_lt j)
  have hM := hR.2.1 j hj.1.1
  have hk := hR.row (sg' := mm_up sg j x v) (ta' := ta) (v := v) (x := x) hj.1.1 (mm_fs_up hj.1.1) (mm_c_up hj.2)
  rw [hj.1.2] at hM hk
  refine hr_iast X d hM h1 ?_
  rw [h2]
  exact kk _ hk
theorem mm_iastT {j : Nat} {i v : Int32} (x : Nat) (X : hm_X C own cc nL ret nm rm cA) (d : decode cc pc = .ok (.iastore, 1)) (hR : mm_R cA sg ta ad mo M0 M) (hj : (mm_ar j && (mm_t j == 0) && mm_scr j) = true) (hx : i = nI x) (hl : x < mm_len j) (kk : ∀ M' : hm_M, mm_R cA sg (mm_up ta j x v) ad mo M0 M' → hm_W C k n Q M' (pc + 1) L st) : hm_W C k n Q M pc L (.int v :: .int i :: .ref (ad j) :: st) := by
  simp only [Bool.and_eq_true, beq_iff_eq] at hj
  obtain ⟨h1, h2⟩ := mm_in hx hl (mm_len_lt j)
  have hM := hR.2.1 j hj.1.1
  have hk := hR.row (sg' := sg) (ta' := mm_up ta j x v) (v := v) (x := x) hj.1.1 (mm_fs_upT hj.1.1) (mm_c_upT hj.2)
  rw [hj.1.2] at hM hk
  refine hr_iast X d hM h1 ?_
  rw [h2]
  exact kk _ hk
theorem mm_zast {j : Nat} {i v : Int32} (x : Nat) (X : hm_X C own cc nL ret nm rm cA) (d : decode cc pc = .ok (.bastore, 1)) (hR : mm_R cA sg ta ad mo M0 M) (hj : (mm_ar j && (mm_t j == 1) && !mm_scr j) = true) (hx : i = nI x) (hl : x < mm_len j) (hz : vp_nar .boolean v = v) (kk : ∀ M' : hm_M, mm_R cA (mm_up sg j x v) ta ad mo M0 M' → hm_W C k n Q M' (pc + 1) L st) : hm_W C k n Q M pc L (.int v :: .int i :: .ref (ad j) :: st) := by
  simp only [Bool.and_eq_true, beq_iff_eq, Bool.not_eq_true'] at hj
  obtain ⟨h1, h2⟩ := mm_in hx hl (mm_len_lt j)
  have hM := hR.2.1 j hj.1.1
  have hk := hR.row (sg' := mm_up sg j x v) (ta' := ta) (v := v) (x := x) hj.1.1 (mm_fs_up hj.1.1) (mm_c_up hj.2)
  rw [hj.1.2] at hM hk
  refine hr_zast X d hM h1 ?_
  rw [h2, hz]
  exact kk _ hk
theorem mm_putS0 {idx : Nat} {ini : Bool} (X : hm_X C own cc nL ret nm rm cA) {v : Int32} (lF : hm_lF own idx 6 0 .int false ini) (d : decode cc pc = .ok (.putfield idx, 3)) (hR : mm_R cA sg ta ad mo M0 M)
    (kk : ∀ M' : hm_M, mm_R cA sg (mm_up ta 0 0 v) ad mo M0 M' → hm_W C k n Q M' (pc + 3) L st) : hm_W C k n Q M pc L (.int v :: .ref mo :: st) := by
  refine hr_put X lF d hR.1 rfl rfl (by show 0 < 27; decide) (kk _ ?_)
  have h1 : mm_R cA sg (mm_up ta 0 0 v) ad mo M0 (hm_up M mo (.inr (6, mm_fs sg (mm_up ta 0 0 v) ad))) := hR.obj (fun i hi => by
    unfold mm_c
    have h2 : i ≠ 0 := fun q => by subst q; revert hi; decide
    rw [mm_up_j h2])
  exact h1
theorem mm_putS1 {idx : Nat} {ini : Bool} (X : hm_X C own cc nL ret nm rm cA) {v : Int32} (lF : hm_lF own idx 6 1 .int false ini) (d : decode cc pc = .ok (.putfield idx, 3)) (hR : mm_R cA sg ta ad mo M0 M)
    (kk : ∀ M' : hm_M, mm_R cA (mm_up sg 1 0 v) ta ad mo M0 M' → hm_W C k n Q M' (pc + 3) L st) : hm_W C k n Q M pc L (.int v :: .ref mo :: st) := by
  refine hr_put X lF d hR.1 rfl rfl (by show 1 < 27; decide) (kk _ ?_)
  have h1 : mm_R cA (mm_up sg 1 0 v) ta ad mo M0 (hm_up M mo (.inr (6, mm_fs (mm_up sg 1 0 v) ta ad))) := hR.obj (fun i hi => by
    unfold mm_c
    have h2 : i ≠ 1 := fun q => by subst q; revert hi; decide
    rw [mm_up_j h2])
  exact h1
theorem mm_putS25 {idx : Nat} {ini : Bool} (X : hm_X C own cc nL ret nm rm cA) {v : Int32} (lF : hm_lF own idx 6 25 .int false ini) (d : decode cc pc = .ok (.putfield idx, 3)) (hR : mm_R cA sg ta ad mo M0 M)
    (kk : ∀ M' : hm_M, mm_R cA sg (mm_up ta 25 0 v) ad mo M0 M' → hm_W C k n Q M' (pc + 3) L st) : hm_W C k n Q M pc L (.int v :: .ref mo :: st) := by
  refine hr_put X lF d hR.1 rfl rfl (by show 25 < 27; decide) (kk _ ?_)
  have h1 : mm_R cA sg (mm_up ta 25 0 v) ad mo M0 (hm_up M mo (.inr (6, mm_fs sg (mm_up ta 25 0 v) ad))) := hR.obj (fun i hi => by
    unfold mm_c
    have h2 : i ≠ 25 := fun q => by subst q; revert hi; decide
    rw [mm_up_j h2])
  exact h1
end MR
