/-! the system as it is made -/
/-- the vault, its first n quotas set -/
def ca_V (cA : Nat → ClassId) (M0 : hm_M) (b q1 q2 q3 q4 q5 q6 : Nat) (r : Nat → Nat) (n : Nat) (Mn : hm_M) : Prop :=
  Mn b = some (.inr (5, [.ref q1, .int 0, .ref q2, .ref q3, .ref q4, .ref q5, .ref q6])) ∧
  Mn q1 = some (cr_rw cA 3 4 (fun _ => none)) ∧
  Mn q2 = some (cr_iw cA 0 4 (fun i => if i < n then 100 else 0)) ∧
  Mn q3 = some (cr_iw cA 0 4 (fun _ => 0)) ∧
  Mn q4 = some (cr_iw cA 0 7 (fun _ => 0)) ∧
  Mn q5 = some (cr_rw cA 8 12 (fun i => if i < 12 then some (r i) else none)) ∧
  (∀ i, i < 12 → Mn (r i) = some (cr_iw cA 0 50 (fun _ => 0))) ∧
  Mn q6 = some (cr_iw cA 0 12 (fun _ => 0)) ∧
  (M0 b = none ∧ M0 q1 = none ∧ M0 q2 = none ∧ M0 q3 = none ∧ M0 q4 = none ∧ M0 q5 = none ∧ (∀ i, i < 12 → M0 (r i) = none) ∧ M0 q6 = none) ∧
  (∀ i j, i < 12 → j < 12 → r i = r j → i = j) ∧ q2 ≠ q3 ∧ ∀ a e, M0 a = some e → Mn a = some e
theorem ca_V.step {cA : Nat → ClassId} {M0 : hm_M} {b q1 q2 q3 q4 q5 q6 n : Nat} {r : Nat → Nat} {Mn : hm_M} (h : ca_V cA M0 b q1 q2 q3 q4 q5 q6 r n Mn) : ca_V cA M0 b q1 q2 q3 q4 q5 q6 r (n + 1) (hm_up Mn q2 (cr_iw cA 0 4 (upd (fun i => if i < n then 100 else 0) n 100))) := by
  obtain ⟨h1, h2, h3, h4, h5, h6, h7, h8, ⟨m1, m2, m3, m4, m5, m6, m7, m8⟩, h10, h11, h12⟩ := h
  have k : ∀ z e, Mn z = some e → va_tag e ≠ 4 → hm_up Mn q2 (cr_iw cA 0 4 (upd (fun i => if i < n then 100 else 0) n 100)) z = some e := fun z e hz ht => by
    rw [hm_up_n (fun y => ?_)]
    · exact hz
    · rw [y, h3] at hz
      cases hz
      exact ht rfl
  refine ⟨k _ _ h1 (show (105 : Nat) ≠ 4 by decide), k _ _ h2 (show (1004 : Nat) ≠ 4 by decide), ?_, ?_, k _ _ h5 (show (7 : Nat) ≠ 4 by decide), k _ _ h6 (show (1012 : Nat) ≠ 4 by decide), fun i hi => k _ _ (h7 i hi) (show (50 : Nat) ≠ 4 by decide), k _ _ h8 (show (12 : Nat) ≠ 4 by decide), ⟨m1, m2, m3, m4, m5, m6, m7, m8⟩, h10, h11, fun a e ha => ?_⟩
  · rw [hm_up_s]
    refine congrArg some (congrArg (cr_iw cA 0 4) (funext fun g => ?_))
    by_cases y : g = n
    · rw [y, upd_s, if_pos (Nat.lt_succ_self n)]
    · rw [upd_n y]
      by_cases w : g < n
      · rw [if_pos w, if_pos (Nat.lt_succ_of_lt w)]
      · rw [if_neg w, if_neg (fun z => y (by omega))]
  · rw [hm_up_n h11.symm]
    exact h4
  · rw [hm_up_n (fun y => by rw [y, m3] at ha; cases ha)]
    exact h12 a e ha
def cr_ad0 (b q1 q2 q3 q4 q5 q6 : Nat) (r : Nat → Nat) : Nat → Nat → Nat := fun q x => if q = 0 then b else if q = 1 then q1 else if q = 2 then q2 else if q = 3 then q3 else if q = 4 then q4 else if q = 5 then q5 else if q = 6 then q6 else r x
/-- what of the system lies at its start -/
theorem cr_S0_cells {cA : Nat → ClassId} {ta : mm_S} {ad : Nat → Nat → Nat} {q x : Nat} {e : va_E} (h : cr_cell cA (sp_S0 4 320) ta ad q x = some e) : q ≤ 7 ∧ (q = 7 → x < 12) ∧ (q ≠ 7 → x = 0) := by
  have hS : ∀ y, cr_isS (sp_S0 4 320) y = false := fun y => by unfold cr_isS; rw [sp_S0_n]; exact decide_eq_false (by omega)
  have hV : ∀ y, cr_isV (sp_S0 4 320) y = false := fun y => by unfold cr_isV; rw [sp_S0_n, decide_eq_false (by omega)]; rfl
  have hE : ∀ y, cr_isE (sp_S0 4 320) y = false := fun y => by unfold cr_isE; rw [sp_S0_n, decide_eq_false (by omega)]; rfl
  have hK : ∀ y, cr_isK (sp_S0 4 320) y = false := fun y => by unfold cr_isK; rw [sp_S0_n, decide_eq_false (by omega)]; rfl
  have no : ∀ {c : Bool} {v : va_E}, c = false → cr_ob c v = some e → False := fun hb hh => by
    rw [hb] at hh
    cases hh
  have on : ∀ {c : Prop} [Decidable c] {v : va_E}, cr_ob (decide c) v = some e → c := fun {c} _ {v} hh => by
    by_cases z : c
    · exact z
    · rw [decide_eq_false z] at hh
      cases hh
  rcases Nat.lt_or_ge 20 q with hq | hq
  · rw [cr_cell_hi hq] at h; cases h
  rcases (show q = 0 ∨ q = 1 ∨ q = 2 ∨ q = 3 ∨ q = 4 ∨ q = 5 ∨ q = 6 ∨ q = 7 ∨ q = 8 ∨ q = 9 ∨ q = 10 ∨ q = 11 ∨ q = 12 ∨ q = 13 ∨ q = 14 ∨ q = 15 ∨ q = 16 ∨ q = 17 ∨ q = 18 ∨ q = 19 ∨ q = 20 by omega) with rfl | rfl | rfl | rfl | rfl | rfl | rfl | rfl | rfl | rfl | rfl | rfl | rfl | rfl | rfl | rfl | rfl | rfl | rfl | rfl | rfl
  · exact ⟨by decide, fun z => absurd z (by decide), fun _ => on h⟩
  · exact ⟨by decide, fun z => absurd z (by decide), fun _ => on h⟩
  · exact ⟨by decide, fun z => absurd z (by decide), fun _ => on h⟩
  · exact ⟨by decide, fun z => absurd z (by decide), fun _ => on h⟩
  · exact ⟨by decide, fun z => absurd z (by decide), fun _ => on h⟩
  · exact ⟨by decide, fun z => absurd z (by decide), fun _ => on h⟩
  · exact ⟨by decide, fun z => absurd z (by decide), fun _ => on h⟩
  · exact ⟨by decide, fun _ => on h, fun z => absurd rfl z⟩
  · exact (no (hS x) h).elim
  · exact (no (hS x) h).elim
  · exact (no (hS x) h).elim
  · exact (no (hS x) h).elim
  · exact (no (hS x) h).elim
  · exact (no (hV x) h).elim
  · exact (no (hV x) h).elim
  · exact (no (hE x) h).elim
  · exact (no (hK x) h).elim
  · exact (no (hK x) h).elim
  · exact (no (hK x) h).elim
  · exact (no (hK (x / 5)) h).elim
  · exact (no (hK (x / 5)) h).elim
def cr_0T (q : Nat) : Nat := if q = 0 then 105 else if q = 1 then 1004 else if q = 4 then 7 else if q = 5 then 1012 else if q = 6 then 12 else if q = 7 then 50 else 4
theorem cr_0T_i : ∀ q, q < 8 → ∀ q', q' < 8 → cr_0T q = cr_0T q' → q = q' ∨ (q = 2 ∧ q' = 3) ∨ (q = 3 ∧ q' = 2) := by decide
section S0W
variable {C : hm_C} {k n0 : Nat} {Q : State → Prop} {M0 Mn : hm_M} {pc : Nat} {L : List (Option Value)} {st : List Value} {cA : Nat → ClassId}
theorem hr_S0 {b q1 q2 q3 q4 q5 q6 : Nat} {r : Nat → Nat} (h : ca_V cA M0 b q1 q2 q3 q4 q5 q6 r 4 Mn)
    (kk : ∀ M2 : hm_M, cr_R cA (sp_S0 4 320) (fun _ _ => 0) (cr_ad0 b q1 q2 q3 q4 q5 q6 r) M0 M2 → hm_W C k n0 Q M2 pc L st) : hm_W C k n0 Q Mn pc L st := by
  obtain ⟨h1, h2, h3, h4, h5, h6, h7, h8, ⟨m1, m2, m3, m4, m5, m6, m7, m8⟩, h10, h11, h12⟩ := h
  have tg : ∀ q x, q ≤ 7 → (q = 7 → x < 12) → (q ≠ 7 → x = 0) → ∃ e, Mn (cr_ad0 b q1 q2 q3 q4 q5 q6 r q x) = some e ∧ va_tag e = cr_0T q := fun q x hq hx hx0 => by
    rcases (show q = 0 ∨ q = 1 ∨ q = 2 ∨ q = 3 ∨ q = 4 ∨ q = 5 ∨ q = 6 ∨ q = 7 by omega) with rfl | rfl | rfl | rfl | rfl | rfl | rfl | rfl
    · exact ⟨_, h1, rfl⟩
    · exact ⟨_, h2, rfl⟩
    · exact ⟨_, h3, rfl⟩
    · exact ⟨_, h4, rfl⟩
    · exact ⟨_, h5, rfl⟩
    · exact ⟨_, h6, rfl⟩
    · exact ⟨_, h8, rfl⟩
    · exact ⟨_, h7 x (hx rfl), rfl⟩
  refine hr_re (fun q x e he => ?_) (fun q x q' x' e e' he he' hq => ?_) h12 kk
  · obtain ⟨c1, c2, c3⟩ := cr_S0_cells he
    rcases (show q = 0 ∨ q = 1 ∨ q = 2 ∨ q = 3 ∨ q = 4 ∨ q = 5 ∨ q = 6 ∨ q = 7 by omega) with rfl | rfl | rfl | rfl | rfl | rfl | rfl | rfl
    · refine ⟨_, h1, ?_, m1⟩
      cases cr_ob_e he
      rw [sp_S0_z (j := 1) (by decide) (by decide)]
      exact va_sm.rf
    · refine ⟨_, h2, ?_, m2⟩
      cases cr_ob_e he
      refine va_sm.r (fun s hs => ?_)
      rw [if_neg (fun z => by unfold cr_isS at z; rw [sp_S0_n] at z; exact absurd (of_decide_eq_true z) (Nat.not_lt_zero s))]
    · refine ⟨_, h3, ?_, m3⟩
      cases cr_ob_e he
      refine va_sm.i (fun i hi => ?_)
      unfold sp_S0
      rw [if_pos hi, if_pos ⟨rfl, hi⟩]
    · refine ⟨_, h4, ?_, m4⟩
      cases cr_ob_e he
      exact va_sm.rf
    · refine ⟨_, h5, ?_, m5⟩
      cases cr_ob_e he
      exact va_sm.rf
    · refine ⟨_, h6, ?_, m6⟩
      cases cr_ob_e he
      exact va_sm.r (fun i hi => if_pos hi)
    · refine ⟨_, h8, ?_, m8⟩
      cases cr_ob_e he
      exact va_sm.rf
    · refine ⟨_, h7 x (c2 rfl), ?_, m7 x (c2 rfl)⟩
      cases cr_ob_e he
      exact va_sm.rf
  · obtain ⟨c1, c2, c3⟩ := cr_S0_cells he
    obtain ⟨d1, d2, d3⟩ := cr_S0_cells he'
    obtain ⟨y, t1, t2⟩ := tg q x c1 c2 c3
    obtain ⟨y', t3, t4⟩ := tg q' x' d1 d2 d3
    rw [hq, t3] at t1
    cases t1
    rcases cr_0T_i q (by omega) q' (by omega) (t2.symm.trans t4) with z | ⟨rfl, rfl⟩ | ⟨rfl, rfl⟩
    · subst z
      refine ⟨rfl, ?_⟩
      by_cases z : q = 7
      · subst z
        exact h10 x x' (c2 rfl) (d2 rfl) hq
      · rw [c3 z, d3 z]
    · exact absurd hq h11
    · exact absurd hq.symm h11
end S0W
