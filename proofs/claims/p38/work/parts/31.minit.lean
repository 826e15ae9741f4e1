/-! the reference's constructor: its rows laid one behind the other -/
def mm_fi (n : Nat) (ad : Nat → Nat) : List Value := (List.range 27).map (fun j => if mm_ar j = true then (if j < n then .ref (ad j) else .null) else .int 0)
/-- the rows below n are laid -/
def mm_I (cA : Nat → ClassId) (n : Nat) (ad : Nat → Nat) (mo : Nat) (M0 M : hm_M) : Prop :=
  M mo = some (.inr (6, mm_fi n ad)) ∧ (∀ j, mm_ar j = true → j < n → M (ad j) = some (.inl (cA (mm_t j), mm_len j, .inl (fun _ => 0))) ∧ M0 (ad j) = none) ∧ (∀ i j, mm_ar i = true → mm_ar j = true → i < n → j < n → ad i = ad j → i = j) ∧ ∀ a, a ≠ mo → (∀ j, mm_ar j = true → j < n → a ≠ ad j) → M a = M0 a
theorem mm_fi_get (n : Nat) (ad : Nat → Nat) {j : Nat} (h : j < 27) : (mm_fi n ad)[j]? = some (if mm_ar j = true then (if j < n then .ref (ad j) else .null) else .int 0) := by
  unfold mm_fi
  rw [List.getElem?_map, List.getElem?_range h]
  rfl
theorem mm_fi_len (n : Nat) (ad : Nat → Nat) : (mm_fi n ad).length = 27 := by simp [mm_fi]
theorem mm_fi_set {n q : Nat} {ad : Nat → Nat} (hn : n < 27) (ha : mm_ar n = true) : (mm_fi n ad).set n (.ref q) = mm_fi (n + 1) (fun j => if j = n then q else ad j) := by
  apply List.ext_getElem?
  intro j
  by_cases hj : j < 27
  · rw [mm_fi_get _ _ hj]
    by_cases e : j = n
    · subst e
      rw [List.getElem?_set_self (by rw [mm_fi_len]; exact hj), if_pos ha, if_pos (Nat.lt_succ_self j), if_pos rfl]
    · rw [List.getElem?_set_ne (Ne.symm e), mm_fi_get _ _ hj]
      by_cases h2 : mm_ar j = true
      · rw [if_pos h2, if_pos h2, if_neg e]
        by_cases h3 : j < n
        · rw [if_pos h3, if_pos (by omega)]
        · rw [if_neg h3, if_neg (by omega)]
      · rw [if_neg h2, if_neg h2]
  · rw [List.getElem?_eq_none (by rw [List.length_set, mm_fi_len]; omega), List.getElem?_eq_none (by rw [mm_fi_len]; omega)]
theorem mm_I.step {cA : Nat → ClassId} {n q : Nat} {ad : Nat → Nat} {mo : Nat} {M0 M : hm_M} (h : mm_I cA n ad mo M0 M) (hn : n < 27) (ha : mm_ar n = true) (hq : M q = none) : mm_I cA (n + 1) (fun j => if j = n then q else ad j) mo M0 (hm_up (hm_up M q (.inl (cA (mm_t n), mm_len n, .inl (fun _ => 0)))) mo (.inr (6, mm_fi (n + 1) (fun j => if j = n then q else ad j)))) := by
  have hqm : q ≠ mo := fun e => by rw [e, h.1] at hq; cases hq
  have hqa : ∀ j, mm_ar j = true → j < n → ad j ≠ q := fun j h1 h2 e => by
    have := (h.2.1 j h1 h2).1
    rw [e, hq] at this
    cases this
  have hma : ∀ j, mm_ar j = true → j < n → ad j ≠ mo := fun j h1 h2 e => by
    have := (h.2.1 j h1 h2).1
    rw [e, h.1] at this
    cases this
  refine ⟨hm_up_s, fun j h1 h2 => ?_, fun i j h1 h2 h3 h4 h5 => ?_, fun a h1 h2 => ?_⟩
  · by_cases e : j = n
    · subst e
      show hm_up _ mo _ (if j = j then q else ad j) = _ ∧ M0 (if j = j then q else ad j) = none
      rw [if_pos rfl, hm_up_n hqm, hm_up_s]
      refine ⟨rfl, ?_⟩
      rw [← h.2.2.2 q hqm (fun i h3 h4 => (hqa i h3 h4).symm)]
      exact hq
    · have hj : j < n := by omega
      show hm_up _ mo _ (if j = n then q else ad j) = _ ∧ M0 (if j = n then q else ad j) = none
      rw [if_neg e, hm_up_n (hma j h1 hj), hm_up_n (hqa j h1 hj)]
      exact h.2.1 j h1 hj
  · dsimp only at h5
    by_cases e1 : i = n <;> by_cases e2 : j = n
    · rw [e1, e2]
    · rw [if_pos e1, if_neg e2] at h5
      exact absurd h5.symm (hqa j h2 (by omega))
    · rw [if_neg e1, if_pos e2] at h5
      exact absurd h5 (hqa i h1 (by omega))
    · rw [if_neg e1, if_neg e2] at h5
      exact h.2.2.1 i j h1 h2 (by omega) (by omega) h5
  · rw [hm_up_n h1, hm_up_n (fun e => h2 n ha (Nat.lt_succ_self n) (by show a = if n = n then q else ad n; rw [if_pos rfl]; exact e))]
    exact h.2.2.2 a h1 (fun j h3 h4 => by
      have h5 := h2 j h3 (by omega)
      dsimp only at h5
      rwa [if_neg (by omega)] at h5)
section MI
variable {C : hm_C} {own : String} {cc : ByteArray} {nL : Nat} {ret : Option FieldType} {nm : String} {rm : Room} {cA : Nat → ClassId} {k n : Nat} {Q : State → Prop} {M M0 : hm_M} {pc : Nat} {L : List (Option Value)} {st : List Value} {ad : Nat → Nat} {mo : Nat}
/-- a row made, and laid into its field -/
theorem mm_newI {idx j : Nat} {rt : FieldType} {v : Int32} (X : hm_X C own cc nL ret nm rm cA) (d : decode cc pc = .ok (.newarray .int, 2)) (lF : hm_lF own idx 6 j rt true true) (d2 : decode cc (pc + 2) = .ok (.putfield idx, 3)) (hnm : nm = "<init>") (hI : mm_I cA j ad mo M0 M) (hj : (decide (j < 27) && mm_ar j && (mm_t j == 0)) = true) (hv : ¬ v < 0 ∧ v.toNatClampNeg = mm_len j) (hrt : ∀ q : Nat, narrow rt (.ref q) = .ref q ∧ fits rt (.ref q) = true) (hf : k + 1 ≤ rm.cells ∧ n + mm_len j ≤ rm.slots)
    (kk : ∀ (M' : hm_M) (ad' : Nat → Nat), mm_I cA (j + 1) ad' mo M0 M' → hm_W C (k + 1) (n + mm_len j) Q M' (pc + 5) L st) : hm_W C k n Q M pc L (.int v :: .ref mo :: st) := by
  simp only [Bool.and_eq_true, decide_eq_true_eq, beq_iff_eq] at hj
  have hlen : mm_len j < 2 ^ 20 := by unfold mm_len; split <;> decide
  refine hr_newa 0 .int (mm_len j) (mm_len j, .inl (fun _ => 0)) X d rfl kA_int (fun _ => rfl) hv.1 hv.2 (by show mm_len j * 4 ≤ _; omega) hf hm_nuI (fun q hq => ?_)
  have hqm : mo ≠ q := fun e => by rw [← e, hI.1] at hq; cases hq
  refine hr_putF (ini := true) X lF d2 (by rw [hm_up_n hqm]; exact hI.1) (hrt q).1 (hrt q).2 (by rw [mm_fi_len]; exact hj.1.1) hnm ?_
  have h := hI.step hj.1.1 hj.1.2 hq
  rw [hj.2] at h
  rw [mm_fi_set hj.1.1 hj.1.2]
  exact kk _ _ h
theorem mm_newZ {idx j : Nat} {rt : FieldType} {v : Int32} (X : hm_X C own cc nL ret nm rm cA) (d : decode cc pc = .ok (.newarray .boolean, 2)) (lF : hm_lF own idx 6 j rt true true) (d2 : decode cc (pc + 2) = .ok (.putfield idx, 3)) (hnm : nm = "<init>") (hI : mm_I cA j ad mo M0 M) (hj : (decide (j < 27) && mm_ar j && (mm_t j == 1)) = true) (hv : ¬ v < 0 ∧ v.toNatClampNeg = mm_len j) (hrt : ∀ q : Nat, narrow rt (.ref q) = .ref q ∧ fits rt (.ref q) = true) (hf : k + 1 ≤ rm.cells ∧ n + mm_len j ≤ rm.slots)
    (kk : ∀ (M' : hm_M) (ad' : Nat → Nat), mm_I cA (j + 1) ad' mo M0 M' → hm_W C (k + 1) (n + mm_len j) Q M' (pc + 5) L st) : hm_W C k n Q M pc L (.int v :: .ref mo :: st) := by
  simp only [Bool.and_eq_true, decide_eq_true_eq, beq_iff_eq] at hj
  have hlen : mm_len j < 2 ^ 20 := by unfold mm_len; split <;> decide
  refine hr_newa 1 .boolean (mm_len j) (mm_len j, .inl (fun _ => 0)) X d rfl kA_boolean (fun _ => rfl) hv.1 hv.2 (by show mm_len j * 1 ≤ _; omega) hf hm_nuZ (fun q hq => ?_)
  have hqm : mo ≠ q := fun e => by rw [← e, hI.1] at hq; cases hq
  refine hr_putF (ini := true) X lF d2 (by rw [hm_up_n hqm]; exact hI.1) (hrt q).1 (hrt q).2 (by rw [mm_fi_len]; exact hj.1.1) hnm ?_
  have h := hI.step hj.1.1 hj.1.2 hq
  rw [hj.2] at h
  rw [mm_fi_set hj.1.1 hj.1.2]
  exact kk _ _ h
end MI
theorem mm_I.skip {cA : Nat → ClassId} {ad : Nat → Nat} {mo : Nat} {M0 M : hm_M} (h : mm_I cA 25 ad mo M0 M) : mm_I cA 26 ad mo M0 M := by
  have e : ∀ j, mm_ar j = true → j < 26 → j < 25 := fun j h1 h2 => by
    rcases Nat.lt_or_ge j 25 with q | q
    · exact q
    · rw [show j = 25 by omega] at h1; exact absurd h1 (by decide)
  refine ⟨?_, fun j h1 h2 => h.2.1 j h1 (e j h1 h2), fun i j h1 h2 h3 h4 => h.2.2.1 i j h1 h2 (e i h1 h3) (e j h2 h4), fun a h1 h2 => h.2.2.2 a h1 (fun j h3 h4 => h2 j h3 (by omega))⟩
  rw [h.1]
  rfl
def sp_S0 (g e : Nat) : mm_S := fun j x => if j = 12 ∧ x < g then 100 else if j = 6 ∧ x < e then 4 else 0
theorem mm_I.done {cA : Nat → ClassId} {ad : Nat → Nat} {mo : Nat} {M0 M : hm_M} (h : mm_I cA 27 ad mo M0 M) : mm_R cA (sp_S0 0 0) (fun _ _ => 0) ad mo M0 M := by
  have lt : ∀ j, mm_ar j = true → j < 27 := fun j hj => by
    simp only [mm_ar, Bool.and_eq_true, decide_eq_true_eq] at hj
    omega
  refine ⟨h.1, fun j hj => ?_, fun i j hi hj => h.2.2.1 i j hi hj (lt i hi) (lt j hj), fun a h1 h2 => h.2.2.2 a h1 (fun j hj _ => h2 j hj)⟩
  rw [(h.2.1 j hj (lt j hj)).1]
  congr 5
  funext x
  unfold mm_c sp_S0
  split
  · rfl
  · simp
theorem sp_S0_q (g : Nat) : mm_up (sp_S0 g 0) 12 g 100 = sp_S0 (g + 1) 0 := by
  funext j x
  unfold mm_up sp_S0
  by_cases h : j = 12
  · subst h
    by_cases e : x = g
    · simp [e]
    · by_cases l : x < g
      · simp [e, l, Nat.lt_succ_of_lt l]
      · simp [e, l, show ¬ x < g + 1 by omega]
  · simp [h]
theorem sp_S0_k (e : Nat) : mm_up (sp_S0 4 e) 6 e 4 = sp_S0 4 (e + 1) := by
  funext j x
  unfold mm_up sp_S0
  by_cases h : j = 6
  · subst h
    by_cases q : x = e
    · simp [q]
    · by_cases l : x < e
      · simp [q, l, Nat.lt_succ_of_lt l]
      · simp [q, l, show ¬ x < e + 1 by omega]
  · simp [h]
