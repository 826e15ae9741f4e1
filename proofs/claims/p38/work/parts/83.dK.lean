/-! a new sheet -/
section AS
variable {sg : mm_S}
theorem sp_addS_j {j y : Nat} (h1 : ¬ (j = 1 ∧ y = 0)) (h5 : ¬ (j = 5 ∧ y = sp_n sg)) (h2 : ¬ ((j = 2 ∨ j = 3 ∨ j = 4) ∧ y = 16 * sp_n sg)) : sp_addS sg j y = sg j y := by
  have e4 : ¬ (j = 4 ∧ y = 16 * sp_n sg) := fun q => h2 ⟨Or.inr (Or.inr q.1), q.2⟩
  have e3 : ¬ (j = 3 ∧ y = 16 * sp_n sg) := fun q => h2 ⟨Or.inr (Or.inl q.1), q.2⟩
  have e2 : ¬ (j = 2 ∧ y = 16 * sp_n sg) := fun q => h2 ⟨Or.inl q.1, q.2⟩
  unfold sp_addS mm_up
  rw [if_neg h1, if_neg h5, if_neg e4, if_neg e3, if_neg e2]
theorem sp_addS_r {j : Nat} (h : ¬ (j = 1 ∨ j = 2 ∨ j = 3 ∨ j = 4 ∨ j = 5)) : sp_addS sg j = sg j := funext fun y => sp_addS_j (by omega) (by omega) (by omega)
theorem sp_addS_x {j y : Nat} (hj : j = 2 ∨ j = 3 ∨ j = 4) (h : y ≠ 16 * sp_n sg) : sp_addS sg j y = sg j y := sp_addS_j (by omega) (by omega) (fun q => h q.2)
theorem sp_addS_1 : sp_addS sg 1 0 = sg 1 0 + 1 := mm_up_s
theorem sp_addS_5 : sp_addS sg 5 (sp_n sg) = 1 := by
  unfold sp_addS
  rw [mm_up_j (by decide), mm_up_s]
theorem sp_addS_5x {y : Nat} (h : y ≠ sp_n sg) : sp_addS sg 5 y = sg 5 y := sp_addS_j (by omega) (fun q => h q.2) (by omega)
theorem sp_addS_4 : sp_addS sg 4 (16 * sp_n sg) = -1 := by
  unfold sp_addS
  rw [mm_up_j (by decide), mm_up_j (by decide), mm_up_s]
theorem sp_addS_3 : sp_addS sg 3 (16 * sp_n sg) = -1 := by
  unfold sp_addS
  rw [mm_up_j (by decide), mm_up_j (by decide), mm_up_j (by decide), mm_up_s]
theorem sp_addS_2 : sp_addS sg 2 (16 * sp_n sg) = 1 := by
  unfold sp_addS
  rw [mm_up_j (by decide), mm_up_j (by decide), mm_up_j (by decide), mm_up_j (by decide), mm_up_s]
theorem sp_addS_n (hI : sp_I sg) (h : sp_n sg < 4) : sp_n (sp_addS sg) = sp_n sg + 1 := by
  have e : sp_addS sg 1 0 = nI (sp_n sg + 1) := by
    rw [sp_addS_1, hI.i1.1, show (1 : Int32) = nI 1 from rfl]
    exact nI_add _ _
  show nN (sp_addS sg 1 0) = sp_n sg + 1
  rw [e]
  exact nI_clamp (by omega)
theorem sp_addS_th {s v : Nat} : sp_th (sp_addS sg) s v ↔ sp_th sg s v ∨ (s = sp_n sg ∧ v = 0) := by
  unfold sp_th
  constructor
  · intro hq
    by_cases z : 16 * s + v = 16 * sp_n sg
    · exact Or.inr ⟨by omega, by omega⟩
    · rw [sp_addS_x (by omega) z] at hq
      exact Or.inl hq
  · intro hq
    by_cases z : 16 * s + v = 16 * sp_n sg
    · rw [z, sp_addS_2]
      exact ⟨by omega, by decide⟩
    · rw [sp_addS_x (by omega) z]
      rcases hq with hq | hq
      · exact hq
      · omega
theorem sp_J.no (hJ : sp_J sg) (h : sp_n sg < 4) {v : Nat} : ¬ sp_th sg (sp_n sg) v := fun q => by
  have v16 := q.1
  exact q.2 (hJ.1 _ (by omega) (by omega))
theorem sp_I.addS (hI : sp_I sg) (hJ : sp_J sg) (h : sp_n sg < 4) : sp_I (sp_addS sg) := by
  have hn := sp_addS_n hI h
  have r : ∀ j, ¬ (j = 1 ∨ j = 2 ∨ j = 3 ∨ j = 4 ∨ j = 5) → sp_addS sg j = sg j := fun j hj => sp_addS_r hj
  refine ⟨⟨?_, by omega⟩, fun s hs => ?_, fun s hs => ?_, ⟨fun y hy => ?_, ?_, ?_⟩, fun s v t hs hv ht => ?_, ?_, fun s g hs hg => ?_, fun s p hs hp => ?_, ?_, ?_⟩
  · rw [hn, sp_addS_1, hI.i1.1, show (1 : Int32) = nI 1 from rfl]
    exact nI_add _ _
  · rw [hn] at hs
    by_cases z : s = sp_n sg
    · subst z
      refine ⟨1, by omega, by omega, sp_addS_5, fun v hv => ?_⟩
      rcases sp_addS_th.mp hv with q | q
      · exact absurd q (hJ.no h)
      · omega
    · obtain ⟨m, m1, m2, m3, m4⟩ := hI.i2 s (by omega)
      refine ⟨m, m1, m2, by rw [sp_addS_5x z]; exact m3, fun v hv => ?_⟩
      rcases sp_addS_th.mp hv with q | q
      · exact m4 v q
      · exact absurd q.1 z
  · rw [hn] at hs
    by_cases z : s = sp_n sg
    · subst z
      refine ⟨sp_addS_th.mpr (Or.inr ⟨rfl, rfl⟩), fun v hv => ?_⟩
      rcases sp_addS_th.mp hv with q | q
      · exact absurd q (hJ.no h)
      · obtain ⟨-, rfl⟩ := q
        exact Or.inl ⟨rfl, sp_addS_3, sp_addS_4⟩
    · obtain ⟨h0, h1⟩ := hI.i3 s (by omega)
      refine ⟨sp_addS_th.mpr (Or.inl h0), fun v hv => ?_⟩
      rcases sp_addS_th.mp hv with q | q
      · have q16 := q.1
        rw [sp_addS_x (j := 3) (by omega) (by omega), sp_addS_x (j := 4) (by omega) (by omega)]
        rcases h1 v q with w | ⟨u, g, w1, w2, w3, w4⟩
        · exact Or.inl w
        · exact Or.inr ⟨u, g, w1, w2, sp_addS_th.mpr (Or.inl w3), w4⟩
      · exact absurd q.1 z
  · by_cases z : y = 16 * sp_n sg
    · rw [z, sp_addS_2]; exact Or.inr rfl
    · rw [sp_addS_x (by omega) z]; exact hI.i4.1 y hy
  · rw [r 11 (by decide)]; exact hI.i4.2.1
  · rw [r 17 (by decide)]; exact hI.i4.2.2
  · obtain ⟨h1, h2, h3⟩ := hI.i5 s v t hs hv ht
    rw [r 6 (by decide)]
    refine ⟨h1, fun q => h2 ?_, h3⟩
    by_cases z : 16 * s + v = 16 * sp_n sg
    · rw [z, sp_addS_2] at q; exact absurd q (by decide)
    · rw [sp_addS_x (by omega) z] at q; exact q
  · unfold sp_I6; rw [r 6 (by decide), r 7 (by decide), r 8 (by decide), r 9 (by decide)]; exact hI.i6
  · rw [hn] at hs
    rw [r 10 (by decide)]
    by_cases z : s = sp_n sg
    · subst z
      exact ⟨0, (hJ.2.2 _ (Nat.le_refl _) h g hg).1, sp_addS_th.mpr (Or.inr ⟨rfl, rfl⟩)⟩
    · obtain ⟨v, v1, v2⟩ := hI.i7 s g (by omega) hg
      exact ⟨v, v1, sp_addS_th.mpr (Or.inl v2)⟩
  · rw [hn, r 13 (by decide), r 14 (by decide), r 17 (by decide), r 19 (by decide), r 20 (by decide)]
    rcases hI.i9 s p hs hp with w | ⟨w1, w2, v, v1, v2⟩
    · exact Or.inl w
    · exact Or.inr ⟨w1, by omega, v, v1, sp_addS_th.mpr (Or.inl v2)⟩
  · unfold sp_I12; rw [r 18 (by decide), r 19 (by decide), r 20 (by decide), r 21 (by decide)]; exact hI.i12
  · unfold sp_I13; rw [r 12 (by decide)]; exact hI.i13
theorem sp_J.addS (hI : sp_I sg) (hJ : sp_J sg) (h : sp_n sg < 4) : sp_J (sp_addS sg) := by
  have hn := sp_addS_n hI h
  refine ⟨fun y hy hq => ?_, ?_, fun s hs h4 => ?_⟩
  · rw [hn] at hq
    rw [sp_addS_x (by omega) (by omega)]
    exact hJ.1 y hy (by omega)
  · rw [sp_addS_r (j := 13) (by decide), sp_addS_r (j := 16) (by decide)]
    exact hJ.2.1
  · rw [hn] at hs
    rw [sp_addS_r (j := 10) (by decide), sp_addS_r (j := 11) (by decide)]
    exact hJ.2.2 s (by omega) h4
theorem sp_used_addS (hJ : sp_J sg) (h : sp_n sg < 4) {g : Nat} (hg : g < 4) : sp_used (sp_addS sg) (nI g) = sp_used sg (nI g) := by
  have hne : ¬ (-1 : Int32) = nI g := by
    rcases (show g = 0 ∨ g = 1 ∨ g = 2 ∨ g = 3 by omega) with rfl | rfl | rfl | rfl <;> decide
  have h1 : ∀ k, k < 320 → sp_usE (sp_addS sg) (nI g) k = sp_usE sg (nI g) k := fun k hk => by
    unfold sp_usE
    by_cases z : k / 5 = 16 * sp_n sg
    · rw [z, sp_addS_2, if_neg (by decide), sp_addS_4, if_neg hne, hJ.1 (16 * sp_n sg) (by omega) (by omega), if_pos rfl]
    · rw [sp_addS_x (j := 2) (by omega) z, sp_addS_x (j := 4) (by omega) z]
      unfold sp_cost
      rw [sp_addS_r (j := 6) (by decide), sp_addS_r (j := 8) (by decide)]
  have h2 : ∀ k, k < 48 → sp_usA (sp_addS sg) (nI g) k = sp_usA sg (nI g) k := fun k _ => by
    unfold sp_usA sp_taken
    rw [sp_is_congr (f := fun t => sp_tk (sp_addS sg) (5 * k + t)) (g := fun t => sp_tk sg (5 * k + t)) 5 (fun t _ => by
      unfold sp_tk
      rw [sp_addS_r (j := 17) (by decide), sp_addS_r (j := 19) (by decide), sp_addS_r (j := 20) (by decide)])]
  unfold sp_used
  rw [sp_is_congr 320 h1, sp_is_congr 48 h2]
theorem cr_ok_addS {ta : mm_S} (hI : sp_I sg) (hJ : sp_J sg) (h : sp_n sg < 4) (hok : cr_ok sg ta) : cr_ok (sp_addS sg) ta :=
  hok.old hI (fun s v hs hv => by
    have v16 := hv.1
    rw [sp_addS_x (j := 3) (by omega) (by omega), sp_addS_r (j := 6) (by decide), sp_addS_r (j := 7) (by decide), sp_addS_r (j := 8) (by decide), sp_addS_r (j := 9) (by decide)]
    exact ⟨rfl, fun _ _ => ⟨rfl, rfl, rfl, rfl⟩⟩) (fun j h1 h2 => sp_addS_r (by omega)) (fun g hg => by rw [sp_used_addS hJ h hg]; exact hok.1 g hg) (fun _ _ _ => rfl) rfl
end AS
theorem hm_up_none {M : hm_M} {a q : Nat} {e : va_E} (h : hm_up M a e q = none) : q ≠ a ∧ M q = none := by
  by_cases z : q = a
  · rw [z, hm_up_s] at h; cases h
  · rw [hm_up_n z] at h; exact ⟨z, h⟩
/-- a sheet as it is made, its first n heads laid -/
def ca_S (cA : Nat → ClassId) (M : hm_M) (b q9 q10 q11 q12 x13 q14 n : Nat) (Mn : hm_M) : Prop :=
  Mn b = some (.inr (3, [.ref q9, .int 1, .ref q10, .ref q11, .ref q12])) ∧
  Mn q9 = some (cr_rw cA 4 16 (va_up (fun _ => none) 0 (some x13))) ∧
  Mn q10 = some (cr_rw cA 4 4 (fun g => if g < n then some x13 else none)) ∧
  Mn q11 = some (cr_iw cA 1 4 (fun _ => 0)) ∧
  Mn q12 = some (cr_rw cA 6 12 (fun _ => none)) ∧
  Mn x13 = some (.inr (4, [.int 0, .int (-1), .null, .ref q14])) ∧
  Mn q14 = some (cr_rw cA 5 5 (fun _ => none)) ∧
  (M q9 = none ∧ M q10 = none ∧ M q11 = none ∧ M q12 = none ∧ M x13 = none ∧ M q14 = none) ∧
  ∀ a e, M a = some e → a ≠ b → Mn a = some e
theorem ca_S.step {cA : Nat → ClassId} {M : hm_M} {b q9 q10 q11 q12 x13 q14 n : Nat} {Mn : hm_M} (h : ca_S cA M b q9 q10 q11 q12 x13 q14 n Mn) : ca_S cA M b q9 q10 q11 q12 x13 q14 (n + 1) (hm_up Mn q10 (cr_rw cA 4 4 (va_up (fun g => if g < n then some x13 else none) n (some x13)))) := by
  obtain ⟨h1, h2, h3, h4, h5, h6, h7, h8, h9⟩ := h
  have k : ∀ z e, Mn z = some e → va_tag e ≠ 1004 → hm_up Mn q10 (cr_rw cA 4 4 (va_up (fun g => if g < n then some x13 else none) n (some x13))) z = some e := fun z e hz ht => by
    rw [hm_up_n (fun y => ?_)]
    · exact hz
    · rw [y, h3] at hz
      cases hz
      exact ht rfl
  refine ⟨k _ _ h1 (show (103 : Nat) ≠ 1004 by decide), k _ _ h2 (show (1016 : Nat) ≠ 1004 by decide), ?_, k _ _ h4 (show (4 : Nat) ≠ 1004 by decide), k _ _ h5 (show (1012 : Nat) ≠ 1004 by decide), k _ _ h6 (show (104 : Nat) ≠ 1004 by decide), k _ _ h7 (show (1005 : Nat) ≠ 1004 by decide), h8, fun a e ha hab => ?_⟩
  · rw [hm_up_s]
    refine congrArg some (congrArg (cr_rw cA 4 4) (funext fun g => ?_))
    unfold va_up
    by_cases y : g = n
    · rw [if_pos y, if_pos (by omega)]
    · rw [if_neg y]
      dsimp only
      by_cases w : g < n
      · rw [if_pos w, if_pos (by omega)]
      · rw [if_neg w, if_neg (by omega)]
  · rw [hm_up_n (fun y => by rw [y, h8.2.1] at ha; cases ha)]
    exact h9 a e ha hab
section ASW
variable {C : hm_C} {k n0 : Nat} {Q : State → Prop} {M F Mb : hm_M} {pc : Nat} {L : List (Option Value)} {st : List Value} {cA : Nat → ClassId} {sg ta : mm_S} {ad : Nat → Nat → Nat}
def cr_asN (n : Nat) (q y : Nat) : Prop := (q = 8 ∧ y = n) ∨ (q = 9 ∧ y = n) ∨ (q = 10 ∧ y = n) ∨ (q = 11 ∧ y = n) ∨ (q = 12 ∧ y = n) ∨ (q = 13 ∧ y = 16 * n) ∨ (q = 14 ∧ y = 16 * n)
theorem cr_ob_mv {b b' : Bool} {v v' e : va_E} (h : cr_ob b' v' = some e) (hb : b' = true → b = true) (hv : b' = true → va_sm v v') : ∃ e2, cr_ob b v = some e2 ∧ va_sm e2 e := by
  cases cr_ob_e h
  have hb1 : b' = true := by
    unfold cr_ob at h
    split at h
    · assumption
    · cases h
  exact ⟨v, if_pos (hb hb1), hv hb1⟩
theorem cr_V_addS (hI : sp_I sg) (hJ : sp_J sg) (h4 : sp_n sg < 4) {y : Nat} (hy : y ≠ 16 * sp_n sg) (h : cr_isV (sp_addS sg) y = true) : cr_isV sg y = true := by
  unfold cr_isV at h ⊢
  rw [sp_addS_n hI h4, sp_addS_x (by omega) hy, Bool.and_eq_true, decide_eq_true_eq] at h
  rw [Bool.and_eq_true, decide_eq_true_eq]
  refine ⟨?_, h.2⟩
  by_cases z : y / 16 < sp_n sg
  · exact z
  · have := hJ.1 y (by omega) (by omega)
    rw [this] at h
    exact absurd h.2 (by decide)
theorem cr_E_addS (hI : sp_I sg) (hJ : sp_J sg) (h4 : sp_n sg < 4) {y : Nat} (h : cr_isE (sp_addS sg) y = true) : cr_isE sg y = true := by
  unfold cr_isE at h ⊢
  rw [sp_addS_n hI h4, sp_addS_r (j := 6) (by decide), Bool.and_eq_true, decide_eq_true_eq] at h
  rw [Bool.and_eq_true, decide_eq_true_eq]
  refine ⟨?_, h.2⟩
  by_cases z : y / 5 / 16 < sp_n sg
  · exact z
  · have h2 := hJ.1 (y / 5) (by omega) (by omega)
    have h5 := (hI.i5 (y / 5 / 16) (y / 5 % 16) (y % 5) (by omega) (by omega) (by omega)).2.1
    unfold sp_e at h5
    rw [show 16 * (y / 5 / 16) + y / 5 % 16 = y / 5 by omega, show 5 * (y / 5) + y % 5 = y by omega] at h5
    rw [h5 h2] at h
    exact absurd h.2 (by decide)
theorem sp_I.k0 (hI : sp_I sg) {k : Nat} (hk : k < 48) (h : ¬ k / 12 < sp_n sg) : sg 13 k = 0 := by
  have h9 := hI.i9 (k / 12) (k % 12) (by omega) (by omega)
  rw [show 12 * (k / 12) + k % 12 = k by omega] at h9
  rcases h9 with q | q
  · exact q.1
  · exact absurd q.2.1 h
theorem cr_K_addS (hI : sp_I sg) (h4 : sp_n sg < 4) {y : Nat} (h : cr_isK (sp_addS sg) y = true) : cr_isK sg y = true := by
  unfold cr_isK at h ⊢
  rw [sp_addS_n hI h4, sp_addS_r (j := 13) (by decide), Bool.and_eq_true, decide_eq_true_eq] at h
  rw [Bool.and_eq_true, decide_eq_true_eq]
  refine ⟨?_, h.2⟩
  by_cases z : y / 12 < sp_n sg
  · exact z
  · rw [hI.k0 (by omega) z] at h
    exact absurd h.2 (by decide)
theorem cr_S_addS (hI : sp_I sg) (h4 : sp_n sg < 4) {y : Nat} (hy : y ≠ sp_n sg) : cr_isS (sp_addS sg) y = cr_isS sg y := by
  unfold cr_isS
  rw [sp_addS_n hI h4]
  by_cases z : y < sp_n sg
  · rw [decide_eq_true z, decide_eq_true (by omega)]
  · rw [decide_eq_false z, decide_eq_false (by omega)]
/-- nothing lies yet where a sheet is not there -/
theorem cr_as_dead (hJ : sp_J sg) (h4 : sp_n sg < 4) {q y : Nat} {w : va_E} (hw : cr_cell cA sg ta ad q y = some w) : ¬ cr_asN (sp_n sg) q y := fun hN => by
  have hd : cr_isS sg (sp_n sg) = false := decide_eq_false (by omega)
  have hv : cr_isV sg (16 * sp_n sg) = false := by
    unfold cr_isV
    rw [decide_eq_false (by omega)]
    rfl
  have no : ∀ {b : Bool} {v : va_E}, b = false → cr_ob b v = some w → False := fun hb h => by
    rw [hb] at h
    cases h
  rcases hN with ⟨rfl, rfl⟩ | ⟨rfl, rfl⟩ | ⟨rfl, rfl⟩ | ⟨rfl, rfl⟩ | ⟨rfl, rfl⟩ | ⟨rfl, rfl⟩ | ⟨rfl, rfl⟩
  · exact no hd hw
  · exact no hd hw
  · exact no hd hw
  · exact no hd hw
  · exact no hd hw
  · exact no hv hw
  · exact no hv hw
def cr_asT (q : Nat) : Nat := if q = 8 then 103 else if q = 9 then 1016 else if q = 10 then 1004 else if q = 11 then 4 else if q = 12 then 1012 else if q = 13 then 104 else 1005
theorem cr_as_tag
    (f8 : F (ad 8 (sp_n sg)) = some (.inr (3, [.ref (ad 9 (sp_n sg)), .int 1, .ref (ad 10 (sp_n sg)), .ref (ad 11 (sp_n sg)), .ref (ad 12 (sp_n sg))])))
    (f9 : F (ad 9 (sp_n sg)) = some (cr_rw cA 4 16 (va_up (fun _ => none) 0 (some (ad 13 (16 * sp_n sg))))))
    (f10 : F (ad 10 (sp_n sg)) = some (cr_rw cA 4 4 (fun g => if g < 4 then some (ad 13 (16 * sp_n sg)) else none)))
    (f11 : F (ad 11 (sp_n sg)) = some (cr_iw cA 1 4 (fun _ => 0))) (f12 : F (ad 12 (sp_n sg)) = some (cr_rw cA 6 12 (fun _ => none)))
    (f13 : F (ad 13 (16 * sp_n sg)) = some (.inr (4, [.int 0, .int (-1), .null, .ref (ad 14 (16 * sp_n sg))]))) (f14 : F (ad 14 (16 * sp_n sg)) = some (cr_rw cA 5 5 (fun _ => none)))
    {q y : Nat} (hN : cr_asN (sp_n sg) q y) : ∃ e, F (ad q y) = some e ∧ va_tag e = cr_asT q := by
  rcases hN with ⟨rfl, rfl⟩ | ⟨rfl, rfl⟩ | ⟨rfl, rfl⟩ | ⟨rfl, rfl⟩ | ⟨rfl, rfl⟩ | ⟨rfl, rfl⟩ | ⟨rfl, rfl⟩
  · exact ⟨_, f8, rfl⟩
  · exact ⟨_, f9, rfl⟩
  · exact ⟨_, f10, rfl⟩
  · exact ⟨_, f11, rfl⟩
  · exact ⟨_, f12, rfl⟩
  · exact ⟨_, f13, rfl⟩
  · exact ⟨_, f14, rfl⟩
theorem cr_asT_i : ∀ q, q < 15 → ∀ q', q' < 15 → 8 ≤ q → 8 ≤ q' → cr_asT q = cr_asT q' → q = q' := by decide
theorem cr_as_hi
    (f8 : F (ad 8 (sp_n sg)) = some (.inr (3, [.ref (ad 9 (sp_n sg)), .int 1, .ref (ad 10 (sp_n sg)), .ref (ad 11 (sp_n sg)), .ref (ad 12 (sp_n sg))])))
    (f9 : F (ad 9 (sp_n sg)) = some (cr_rw cA 4 16 (va_up (fun _ => none) 0 (some (ad 13 (16 * sp_n sg))))))
    (f10 : F (ad 10 (sp_n sg)) = some (cr_rw cA 4 4 (fun g => if g < 4 then some (ad 13 (16 * sp_n sg)) else none)))
    (f11 : F (ad 11 (sp_n sg)) = some (cr_iw cA 1 4 (fun _ => 0))) (f12 : F (ad 12 (sp_n sg)) = some (cr_rw cA 6 12 (fun _ => none)))
    (f13 : F (ad 13 (16 * sp_n sg)) = some (.inr (4, [.int 0, .int (-1), .null, .ref (ad 14 (16 * sp_n sg))]))) (f14 : F (ad 14 (16 * sp_n sg)) = some (cr_rw cA 5 5 (fun _ => none)))
    {q y q' y' : Nat} (hN : cr_asN (sp_n sg) q y) (hN' : cr_asN (sp_n sg) q' y') (hq : ad q y = ad q' y') : q = q' ∧ y = y' := by
  obtain ⟨e, g1, g2⟩ := cr_as_tag f8 f9 f10 f11 f12 f13 f14 hN
  obtain ⟨e', g3, g4⟩ := cr_as_tag f8 f9 f10 f11 f12 f13 f14 hN'
  rw [hq, g3] at g1
  cases g1
  have hqq := cr_asT_i q (by unfold cr_asN at hN; omega) q' (by unfold cr_asN at hN'; omega) (by unfold cr_asN at hN; omega) (by unfold cr_asN at hN'; omega) (g2.symm.trans g4)
  unfold cr_asN at hN hN'
  omega
theorem cr_tell {sg' : mm_S} {q y : Nat} {e : va_E} (he : cr_cell cA sg' ta ad q y = some e) (h3 : 3 ≤ q) (h7 : q ≤ 7) : ∃ e2, cr_cell cA sg ta ad q y = some e2 ∧ va_sm e2 e := by
  rcases (show q = 3 ∨ q = 4 ∨ q = 5 ∨ q = 6 ∨ q = 7 by omega) with rfl | rfl | rfl | rfl | rfl
  · have h2 : cr_ob (decide (y = 0)) (cr_iw cA 0 4 (ta 0)) = some e := he
    exact ⟨e, h2, va_sm.rf⟩
  · have h2 : cr_ob (decide (y = 0)) (cr_iw cA 0 7 (ta 5)) = some e := he
    exact ⟨e, h2, va_sm.rf⟩
  · have h2 : cr_ob (decide (y = 0)) (cr_rw cA 8 12 (fun p => some (ad 7 p))) = some e := he
    exact ⟨e, h2, va_sm.rf⟩
  · have h2 : cr_ob (decide (y = 0)) (cr_iw cA 0 12 (ta 7)) = some e := he
    exact ⟨e, h2, va_sm.rf⟩
  · have h2 : cr_ob (decide (y < 12)) (cr_iw cA 0 50 (fun i => ta 6 (50 * y + i))) = some e := he
    exact ⟨e, h2, va_sm.rf⟩
theorem hr_adds (hI : sp_I sg) (hJ : sp_J sg) (h4 : sp_n sg < 4) (h : cr_R cA sg ta ad F M) (hF : ∀ b e, Mb b = some e → F b = some e) (hb : ∀ q y, cr_asN (sp_n sg) q y → Mb (ad q y) = none)
    (f8 : F (ad 8 (sp_n sg)) = some (.inr (3, [.ref (ad 9 (sp_n sg)), .int 1, .ref (ad 10 (sp_n sg)), .ref (ad 11 (sp_n sg)), .ref (ad 12 (sp_n sg))])))
    (f9 : F (ad 9 (sp_n sg)) = some (cr_rw cA 4 16 (va_up (fun _ => none) 0 (some (ad 13 (16 * sp_n sg))))))
    (f10 : F (ad 10 (sp_n sg)) = some (cr_rw cA 4 4 (fun g => if g < 4 then some (ad 13 (16 * sp_n sg)) else none)))
    (f11 : F (ad 11 (sp_n sg)) = some (cr_iw cA 1 4 (fun _ => 0))) (f12 : F (ad 12 (sp_n sg)) = some (cr_rw cA 6 12 (fun _ => none)))
    (f13 : F (ad 13 (16 * sp_n sg)) = some (.inr (4, [.int 0, .int (-1), .null, .ref (ad 14 (16 * sp_n sg))]))) (f14 : F (ad 14 (16 * sp_n sg)) = some (cr_rw cA 5 5 (fun _ => none)))
    {M7 : hm_M} (e7 : M7 = hm_up (hm_up M (ad 1 0) (cr_rw cA 3 4 (va_up (fun s => if cr_isS sg s = true then some (ad 8 s) else none) (sp_n sg) (some (ad 8 (sp_n sg)))))) (ad 0 0) (.inr (5, [.ref (ad 1 0), .int (sg 1 0 + 1), .ref (ad 2 0), .ref (ad 3 0), .ref (ad 4 0), .ref (ad 5 0), .ref (ad 6 0)])))
    (kk : ∀ M2 : hm_M, cr_R cA (sp_addS sg) ta ad Mb M2 → hm_W C k n0 Q M2 pc L st) : hm_W C k n0 Q M7 pc L st := by
  subst e7
  have l0 : cr_cell cA sg ta ad 0 0 = some _ := rfl
  have l1 : cr_cell cA sg ta ad 1 0 = some _ := rfl
  have n01 : ad 1 0 ≠ ad 0 0 := cr_at_ne h l1 l0 (by omega)
  have hS := fun y (hy : y ≠ sp_n sg) => cr_S_addS hI h4 hy
  have hS1 : cr_isS (sp_addS sg) (sp_n sg) = true := by
    unfold cr_isS
    rw [sp_addS_n hI h4]
    exact decide_eq_true (by omega)
  have r : ∀ j, ¬ (j = 1 ∨ j = 2 ∨ j = 3 ∨ j = 4 ∨ j = 5) → sp_addS sg j = sg j := fun j hj => sp_addS_r hj
  refine hr_re2 h hF (fun b e he => ?_) (cr_asN (sp_n sg)) (fun q y e he hN => ?_) (fun q y hN => ⟨hb q y hN, ?_⟩) (fun q y q' y' hN hN' hq => ?_) kk
  · rw [hm_up_n (fun z => by rw [z, (h.1 0 0 _ l0).2] at he; cases he), hm_up_n (fun z => by rw [z, (h.1 1 0 _ l1).2] at he; cases he)]
    exact h.2.2 b e he
  · by_cases w0 : q = 0 ∧ y = 0
    · obtain ⟨rfl, rfl⟩ := w0
      refine ⟨_, _, l0, hm_up_s, ?_⟩
      cases cr_ob_e he
      rw [sp_addS_1]
      exact va_sm.rf
    by_cases w1 : q = 1 ∧ y = 0
    · obtain ⟨rfl, rfl⟩ := w1
      refine ⟨_, _, l1, (hm_up_n n01).trans hm_up_s, ?_⟩
      cases cr_ob_e he
      refine va_sm.r (fun s hs => ?_)
      unfold va_up
      by_cases z : s = sp_n sg
      · rw [if_pos z, z, if_pos hS1]
      · rw [if_neg z, hS s z]
    refine Exists.elim (?_ : ∃ e2, cr_cell cA sg ta ad q y = some e2 ∧ va_sm e2 e) (fun e2 h2 => ⟨e2, e2, h2.1, ?_, h2.2⟩)
    · rcases Nat.lt_or_ge 20 q with hq | hq
      · rw [cr_cell_hi hq] at he; cases he
      rcases (show q = 0 ∨ q = 1 ∨ q = 2 ∨ q = 3 ∨ q = 4 ∨ q = 5 ∨ q = 6 ∨ q = 7 ∨ q = 8 ∨ q = 9 ∨ q = 10 ∨ q = 11 ∨ q = 12 ∨ q = 13 ∨ q = 14 ∨ q = 15 ∨ q = 16 ∨ q = 17 ∨ q = 18 ∨ q = 19 ∨ q = 20 by omega) with rfl | rfl | rfl | rfl | rfl | rfl | rfl | rfl | rfl | rfl | rfl | rfl | rfl | rfl | rfl | rfl | rfl | rfl | rfl | rfl | rfl
      · exact cr_ob_mv he (fun w => absurd ⟨rfl, of_decide_eq_true w⟩ w0) (fun w => absurd ⟨rfl, of_decide_eq_true w⟩ w0)
      · exact cr_ob_mv he (fun w => absurd ⟨rfl, of_decide_eq_true w⟩ w1) (fun w => absurd ⟨rfl, of_decide_eq_true w⟩ w1)
      · exact cr_ob_mv he id (fun _ => by rw [r 12 (by decide)]; exact va_sm.rf)
      · exact cr_tell he (by decide) (by decide)
      · exact cr_tell he (by decide) (by decide)
      · exact cr_tell he (by decide) (by decide)
      · exact cr_tell he (by decide) (by decide)
      · exact cr_tell he (by decide) (by decide)
      · have hy : y ≠ sp_n sg := fun z => hN (by unfold cr_asN; omega)
        exact cr_ob_mv he (fun w => by rw [← hS y hy]; exact w) (fun _ => by rw [sp_addS_5x hy]; exact va_sm.rf)
      · have hy : y ≠ sp_n sg := fun z => hN (by unfold cr_asN; omega)
        exact cr_ob_mv he (fun w => by rw [← hS y hy]; exact w) (fun _ => va_sm.r (fun v hv => by rw [sp_addS_x (by omega) (by omega)]))
      · have hy : y ≠ sp_n sg := fun z => hN (by unfold cr_asN; omega)
        exact cr_ob_mv he (fun w => by rw [← hS y hy]; exact w) (fun _ => by unfold cr_hd; rw [r 10 (by decide)]; exact va_sm.rf)
      · have hy : y ≠ sp_n sg := fun z => hN (by unfold cr_asN; omega)
        exact cr_ob_mv he (fun w => by rw [← hS y hy]; exact w) (fun _ => by rw [r 11 (by decide)]; exact va_sm.rf)
      · have hy : y ≠ sp_n sg := fun z => hN (by unfold cr_asN; omega)
        exact cr_ob_mv he (fun w => by rw [← hS y hy]; exact w) (fun _ => by rw [r 13 (by decide)]; exact va_sm.rf)
      · have hy : y ≠ 16 * sp_n sg := fun z => hN (by unfold cr_asN; omega)
        exact cr_ob_mv he (cr_V_addS hI hJ h4 hy) (fun _ => by unfold cr_up; rw [sp_addS_x (j := 3) (by omega) hy, sp_addS_x (j := 4) (by omega) hy]; exact va_sm.rf)
      · have hy : y ≠ 16 * sp_n sg := fun z => hN (by unfold cr_asN; omega)
        exact cr_ob_mv he (cr_V_addS hI hJ h4 hy) (fun _ => by rw [r 6 (by decide)]; exact va_sm.rf)
      · exact cr_ob_mv he (cr_E_addS hI hJ h4) (fun _ => by unfold cr_kd; rw [r 6 (by decide), r 7 (by decide), r 8 (by decide), r 9 (by decide)]; exact va_sm.rf)
      · exact cr_ob_mv he (cr_K_addS hI h4) (fun _ => by unfold sp_rMark; rw [r 13 (by decide), r 14 (by decide), r 15 (by decide), r 16 (by decide)]; exact va_sm.rf)
      · exact cr_ob_mv he (cr_K_addS hI h4) (fun _ => va_sm.rf)
      · exact cr_ob_mv he (cr_K_addS hI h4) (fun _ => va_sm.rf)
      · exact cr_ob_mv he (cr_K_addS hI h4) (fun _ => by rw [r 17 (by decide), r 19 (by decide), r 20 (by decide)]; exact va_sm.rf)
      · exact cr_ob_mv he (cr_K_addS hI h4) (fun _ => va_sm.rf)
    · rw [hm_up_n (cr_at_ne h h2.1 l0 w0), hm_up_n (cr_at_ne h h2.1 l1 w1)]
      exact (h.1 _ _ _ h2.1).1
  · rcases hN with ⟨rfl, rfl⟩ | ⟨rfl, rfl⟩ | ⟨rfl, rfl⟩ | ⟨rfl, rfl⟩ | ⟨rfl, rfl⟩ | ⟨rfl, rfl⟩ | ⟨rfl, rfl⟩
    · refine ⟨_, f8, fun e he => ?_⟩
      cases cr_ob_e he
      rw [sp_addS_5]
      exact va_sm.rf
    · refine ⟨_, f9, fun e he => ?_⟩
      cases cr_ob_e he
      refine va_sm.r (fun v hv => ?_)
      unfold va_up
      by_cases z : v = 0
      · rw [if_pos z, z, Nat.add_zero, sp_addS_2, if_neg (by decide)]
      · rw [if_neg z, sp_addS_x (by omega) (by omega), hJ.1 _ (by omega) (by omega), if_pos rfl]
    · refine ⟨_, f10, fun e he => ?_⟩
      cases cr_ob_e he
      refine va_sm.r (fun g hg => ?_)
      unfold cr_hd
      rw [if_pos hg, r 10 (by decide), (hJ.2.2 _ (Nat.le_refl _) h4 g hg).1, show nN (0 : Int32) = 0 by decide, Nat.add_zero]
    · refine ⟨_, f11, fun e he => ?_⟩
      cases cr_ob_e he
      refine va_sm.i (fun g hg => ?_)
      rw [r 11 (by decide), (hJ.2.2 _ (Nat.le_refl _) h4 g hg).2]
    · refine ⟨_, f12, fun e he => ?_⟩
      cases cr_ob_e he
      refine va_sm.r (fun p hp => ?_)
      rw [r 13 (by decide), hI.k0 (by omega) (by omega), if_pos rfl]
    · refine ⟨_, f13, fun e he => ?_⟩
      cases cr_ob_e he
      unfold cr_up
      rw [sp_addS_3, sp_addS_4, if_pos rfl, show 16 * sp_n sg % 16 = 0 by omega, show nI 0 = (0 : Int32) from rfl]
      exact va_sm.rf
    · refine ⟨_, f14, fun e he => ?_⟩
      cases cr_ob_e he
      refine va_sm.r (fun t ht => ?_)
      have h5 := (hI.i5 (sp_n sg) 0 t h4 (by decide) ht).2.2 rfl
      unfold sp_e at h5
      rw [Nat.add_zero] at h5
      rw [r 6 (by decide), h5, if_pos rfl]
  · exact cr_as_hi f8 f9 f10 f11 f12 f13 f14 hN hN' hq
def cr_adS (ad : Nat → Nat → Nat) (n b q9 q10 q11 q12 x13 q14 : Nat) : Nat → Nat → Nat := fun j y => if j = 8 ∧ y = n then b else if j = 9 ∧ y = n then q9 else if j = 10 ∧ y = n then q10 else if j = 11 ∧ y = n then q11 else if j = 12 ∧ y = n then q12 else if j = 13 ∧ y = 16 * n then x13 else if j = 14 ∧ y = 16 * n then q14 else ad j y
variable {n b q9 q10 q11 q12 x13 q14 : Nat}
theorem cr_adS_o {j y : Nat} (h : ¬ cr_asN n j y) : cr_adS ad n b q9 q10 q11 q12 x13 q14 j y = ad j y := by
  unfold cr_asN at h
  unfold cr_adS
  rw [if_neg (by omega), if_neg (by omega), if_neg (by omega), if_neg (by omega), if_neg (by omega), if_neg (by omega), if_neg (by omega)]
theorem cr_adS_8 : cr_adS ad n b q9 q10 q11 q12 x13 q14 8 n = b := if_pos ⟨rfl, rfl⟩
theorem cr_adS_9 : cr_adS ad n b q9 q10 q11 q12 x13 q14 9 n = q9 := by
  unfold cr_adS
  rw [if_neg (by omega), if_pos ⟨rfl, rfl⟩]
theorem cr_adS_10 : cr_adS ad n b q9 q10 q11 q12 x13 q14 10 n = q10 := by
  unfold cr_adS
  rw [if_neg (by omega), if_neg (by omega), if_pos ⟨rfl, rfl⟩]
theorem cr_adS_11 : cr_adS ad n b q9 q10 q11 q12 x13 q14 11 n = q11 := by
  unfold cr_adS
  rw [if_neg (by omega), if_neg (by omega), if_neg (by omega), if_pos ⟨rfl, rfl⟩]
theorem cr_adS_12 : cr_adS ad n b q9 q10 q11 q12 x13 q14 12 n = q12 := by
  unfold cr_adS
  rw [if_neg (by omega), if_neg (by omega), if_neg (by omega), if_neg (by omega), if_pos ⟨rfl, rfl⟩]
theorem cr_adS_13 : cr_adS ad n b q9 q10 q11 q12 x13 q14 13 (16 * n) = x13 := by
  unfold cr_adS
  rw [if_neg (by omega), if_neg (by omega), if_neg (by omega), if_neg (by omega), if_neg (by omega), if_pos ⟨rfl, rfl⟩]
theorem cr_adS_14 : cr_adS ad n b q9 q10 q11 q12 x13 q14 14 (16 * n) = q14 := by
  unfold cr_adS
  rw [if_neg (by omega), if_neg (by omega), if_neg (by omega), if_neg (by omega), if_neg (by omega), if_neg (by omega), if_pos ⟨rfl, rfl⟩]
end ASW
