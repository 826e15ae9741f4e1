/-! every public call keeps sp_I and sp_J -/
section IJ
variable {sg : mm_S}
theorem lp_rev (hI : sp_I sg) (hJ : sp_J sg) {g s t more kind pts rule slack : Int32} (hn : sp_name sg g s t = true) (hc : sp_canRev sg (nN g) (nN s) more = true) (hE : sp_okE kind pts rule slack) : sp_I (sp_rev sg (nN g) (nN s) (nN t) kind pts rule slack) ∧ sp_J (sp_rev sg (nN g) (nN s) (nN t) kind pts rule slack) := by
  obtain ⟨a, b, c, ha, hb, hb4, hc5, rfl, rfl, rfl⟩ := sp_name_nat hI hn
  have e1 : nN (nI a) = a := nI_clamp (by omega)
  have e2 : nN (nI b) = b := nI_clamp (by omega)
  have e3 : nN (nI c) = c := nI_clamp (by omega)
  rw [e1, e2] at hc
  rw [e1, e2, e3]
  obtain ⟨m, m1, m2, h5, hm⟩ := hI.i2 b hb
  have hm16 : m < 16 := by
    rcases Nat.lt_or_ge m 16 with h | h
    · exact h
    · exfalso
      have e : m = 16 := by omega
      subst e
      unfold sp_canRev at hc
      rw [h5, show decide ((16 : Int32) ≤ nI 16) = true from by decide, Bool.and_eq_true] at hc
      exact absurd hc.1 (by decide)
  unfold sp_rev
  rw [h5, show nN (nI m) = m from nI_clamp (by omega)]
  exact ⟨hI.rev hb ha hc5 h5 m1 hm16 hm hE, hJ.rev hb ha hm16⟩
theorem lp_setNumber (hI : sp_I sg) (hJ : sp_J sg) {g s t points value slack : Int32} (h : sp_thSet sg g s t (sp_areN points value slack) (2) = 0) : sp_I (sp_rev sg (nN g) (nN s) (nN t) 0 points value slack) ∧ sp_J (sp_rev sg (nN g) (nN s) (nN t) 0 points value slack) := by
  obtain ⟨h1, h2, h3⟩ := sp_thSet_0 h
  unfold sp_areN at h2
  rw [Bool.and_eq_true, Bool.and_eq_true] at h2
  exact lp_rev hI hJ h1 h3 (Or.inl ⟨rfl, h2.1.1, h2.1.2, h2.2⟩)
theorem lp_setChoice (hI : sp_I sg) (hJ : sp_J sg) {g s t points signs : Int32} (h : sp_thSet sg g s t (sp_areC points signs) (1) = 0) : sp_I (sp_rev sg (nN g) (nN s) (nN t) 1 points signs 0) ∧ sp_J (sp_rev sg (nN g) (nN s) (nN t) 1 points signs 0) := by
  obtain ⟨h1, h2, h3⟩ := sp_thSet_0 h
  unfold sp_areC at h2
  rw [Bool.and_eq_true] at h2
  exact lp_rev hI hJ h1 h3 (Or.inr (Or.inl ⟨rfl, h2.1, h2.2⟩))
theorem lp_setWords (hI : sp_I sg) (hJ : sp_J sg) {g s t points words : Int32} (h : sp_thSet sg g s t (sp_areW points words) (nI (sp_len words)) = 0) : sp_I (sp_rev sg (nN g) (nN s) (nN t) 2 points words 0) ∧ sp_J (sp_rev sg (nN g) (nN s) (nN t) 2 points words 0) := by
  obtain ⟨h1, h2, h3⟩ := sp_thSet_0 h
  unfold sp_areW at h2
  rw [Bool.and_eq_true] at h2
  exact lp_rev hI hJ h1 h3 (Or.inr (Or.inr (Or.inl ⟨rfl, h2.1, h2.2⟩)))
theorem lp_drop (hI : sp_I sg) (hJ : sp_J sg) {g s t : Int32} (h : sp_thDrop sg g s t = 0) : sp_I (sp_rev sg (nN g) (nN s) (nN t) 3 0 0 0) ∧ sp_J (sp_rev sg (nN g) (nN s) (nN t) 3 0 0 0) := by
  obtain ⟨h1, h2⟩ := sp_thDrop_0 h
  rw [Bool.and_eq_true] at h2
  exact lp_rev hI hJ h1 h2.2 (Or.inr (Or.inr (Or.inr rfl)))
theorem lp_adopt (hI : sp_I sg) (hJ : sp_J sg) {g s v : Int32} (h : sp_thAdopt sg g s v = 0) : sp_I (mm_up sg 10 (4 * nN s + nN g) v) ∧ sp_J (mm_up sg 10 (4 * nN s + nN g) v) := by
  obtain ⟨a, b, c, ha, hb, rfl, rfl, rfl, hth⟩ := sp_thAdopt_0 hI h
  have hb4 := hI.i1.2
  rw [show nN (nI a) = a from nI_clamp (by omega), show nN (nI b) = b from nI_clamp (by omega)]
  exact ⟨hI.adp ha hth, hJ.adp hb ha⟩
theorem lp_quota (hI : sp_I sg) (hJ : sp_J sg) {g q : Int32} (h : sp_thQuota g q = 0) : sp_I (mm_up sg 12 (nN g) q) ∧ sp_J (mm_up sg 12 (nN g) q) := ⟨hI.quo (sp_thQuota_0 h).2, hJ.quo⟩
theorem lp_fold (hI : sp_I sg) (hJ : sp_J sg) {s v : Int32} (h : sp_thFold sg s v = 0) : sp_I (sp_foldS sg (nN s) (nN v)) ∧ sp_J (sp_foldS sg (nN s) (nN v)) := by
  unfold sp_thFold at h
  by_cases h1 : sp_isV sg s v = true
  · rw [if_pos h1] at h
    by_cases h2 : sp_cFold sg (nN s) (nN v) = true
    · obtain ⟨a, b, ha, ha4, rfl, rfl, hth⟩ := sp_isV_nat hI h1
      have hb := hth.1
      rw [show nN (nI a) = a from nI_clamp (by omega), show nN (nI b) = b from nI_clamp (by omega)] at h2 ⊢
      unfold sp_cFold at h2
      rw [Bool.and_eq_true] at h2
      have hn : sp_need sg a b = false := by
        have := h2.1
        cases z : sp_need sg a b with
        | false => rfl
        | true => rw [z] at this; cases this
      exact ⟨hI.fold (sp_fd_of hI ha hth hn), hJ.fold ha hb⟩
    · rw [if_neg h2] at h
      exact absurd h (by decide)
  · rw [if_neg h1] at h
    exact absurd h (by decide)
theorem lp_menE (hI : sp_I sg) {s v t kind rule slack : Int32} (h1 : sp_nmd sg s v t = true) (h3 : (sp_men sg (nN s) (nN v) (nN t) kind).isSome = true) (h : (kind = 0 ∧ sp_in rule (-1000) 1000 = true ∧ sp_in slack 0 100 = true) ∨ (kind = 1 ∧ sp_in rule 0 31 = true) ∨ (kind = 2 ∧ sp_row rule = true)) : sp_okR sg (sp_menE sg (nN s) (nN v) (nN t) kind) rule slack := by
  unfold sp_nmd at h1
  rw [Bool.and_eq_true] at h1
  obtain ⟨a, b, ha, ha4, rfl, rfl, hth⟩ := sp_isV_nat hI h1.1
  have hb := hth.1
  rw [show nN (nI a) = a from nI_clamp (by omega), show nN (nI b) = b from nI_clamp (by omega)] at h3 ⊢
  cases q : sp_men sg a b (nN t) kind with
  | none => rw [q] at h3; cases h3
  | some u =>
    unfold sp_menE
    rw [q]
    exact sp_okR_of (sp_men_some hI ha hth q).2.2 h
theorem lp_mendNumber (hI : sp_I sg) (hJ : sp_J sg) {s v t value slack : Int32} (h : sp_thMen sg s v t (sp_in value (-1000) 1000 && sp_in slack 0 100) 0 = 0) : sp_I (sp_mend sg (nN s) (sp_menE sg (nN s) (nN v) (nN t) 0) value slack) ∧ sp_J (sp_mend sg (nN s) (sp_menE sg (nN s) (nN v) (nN t) 0) value slack) := by
  obtain ⟨h1, h2, h3⟩ := sp_thMen_0 h
  rw [Bool.and_eq_true] at h2
  exact ⟨hI.mnd (lp_menE hI h1 h3 (Or.inl ⟨rfl, h2.1, h2.2⟩)), hJ.mnd⟩
theorem lp_mendChoice (hI : sp_I sg) (hJ : sp_J sg) {s v t signs : Int32} (h : sp_thMen sg s v t (sp_in signs 0 31) 1 = 0) : sp_I (sp_mend sg (nN s) (sp_menE sg (nN s) (nN v) (nN t) 1) signs 0) ∧ sp_J (sp_mend sg (nN s) (sp_menE sg (nN s) (nN v) (nN t) 1) signs 0) := by
  obtain ⟨h1, h2, h3⟩ := sp_thMen_0 h
  exact ⟨hI.mnd (lp_menE hI h1 h3 (Or.inr (Or.inl ⟨rfl, h2⟩))), hJ.mnd⟩
theorem lp_mendWords (hI : sp_I sg) (hJ : sp_J sg) {s v t words : Int32} (h : sp_thMenW sg s v t words = 0) : sp_I (sp_mend sg (nN s) (sp_menE sg (nN s) (nN v) (nN t) 2) words 0) ∧ sp_J (sp_mend sg (nN s) (sp_menE sg (nN s) (nN v) (nN t) 2) words 0) := by
  obtain ⟨h1, h2, h3⟩ := sp_thMenW_0 h
  refine ⟨hI.mnd (lp_menE hI h1 ?_ (Or.inr (Or.inr ⟨rfl, h2⟩))), hJ.mnd⟩
  unfold sp_menW at h3
  cases q : sp_men sg (nN s) (nN v) (nN t) 2 with
  | none => rw [q] at h3; cases h3
  | some u => rfl
theorem lp_open (hI : sp_I sg) (hJ : sp_J sg) {p s : Int32} (h : sp_thOpen sg p s = 0) : sp_I (sp_openS sg (nN p) (nN s)) ∧ sp_J (sp_openS sg (nN p) (nN s)) := by
  unfold sp_thOpen at h
  by_cases h1 : sp_both sg p s = true
  · rw [if_pos h1] at h
    by_cases h2 : sp_canO sg (nN p) (nN s) = true
    · obtain ⟨a, b, ha, hb, hb4, -, -, e1, e2⟩ := sp_both_nat hI h1
      rw [e1, e2] at h2 ⊢
      unfold sp_canO at h2
      rw [Bool.and_eq_true, decide_eq_true_eq] at h2
      exact ⟨hI.opn hb ha h2.1, hJ.opn hb4 ha h2.1⟩
    · rw [if_neg h2] at h
      exact absurd h (by decide)
  · rw [if_neg h1] at h
    exact absurd h (by decide)
theorem lp_hand (hI : sp_I sg) (hJ : sp_J sg) {p s : Int32} (h : sp_thHand sg p s = 0) : sp_I (sp_handS sg (sp_k p s)) ∧ sp_J (sp_handS sg (sp_k p s)) := by
  unfold sp_thHand at h
  by_cases h1 : sp_both sg p s = true
  · rw [if_pos h1] at h
    by_cases h2 : sg 13 (sp_k p s) = 1
    · exact ⟨hI.hnd h2, hJ.hnd⟩
    · rw [if_neg h2] at h
      exact absurd h (by decide)
  · rw [if_neg h1] at h
    exact absurd h (by decide)
theorem lp_close (hI : sp_I sg) (hJ : sp_J sg) {g s : Int32} (h : sp_thClose sg g s = 0) : sp_I (sp_clS (mm_up sg 11 (4 * nN s + nN g) 1) (12 * nN s + 3 * nN g) 3) ∧ sp_J (sp_clS (mm_up sg 11 (4 * nN s + nN g) 1) (12 * nN s + 3 * nN g) 3) := by
  unfold sp_thClose at h
  by_cases h1 : sp_cs sg g s = true
  · unfold sp_cs at h1
    rw [Bool.and_eq_true] at h1
    obtain ⟨g, hg, rfl⟩ := sp_in_g h1.1
    obtain ⟨a, ha, ha4, rfl⟩ := sp_isS_nat hI h1.2
    rw [show nN (nI a) = a from nI_clamp (by omega), show nN (nI g) = g from nI_clamp (by omega)]
    exact ⟨sp_clS_I hI.cls 3, sp_clS_J (hJ.cls ha hg) 3⟩
  · rw [if_neg h1] at h
    exact absurd h (by decide)
theorem lp_addSheet (hI : sp_I sg) (hJ : sp_J sg) (h : sp_w (!decide (sg 1 0 = 4)) = 0) : sp_I (sp_addS sg) ∧ sp_J (sp_addS sg) := by
  have h1 := sp_w_0.mp h
  rw [Bool.not_eq_true', decide_eq_false_iff_not] at h1
  have h2 : sp_n sg < 4 := by
    rcases Nat.lt_or_ge (sp_n sg) 4 with q | q
    · exact q
    · have := hI.i1
      have e4 : sp_n sg = 4 := Nat.le_antisymm this.2 q
      exact absurd (by rw [this.1, e4]; rfl) h1
  exact ⟨hI.addS hJ h2, hJ.addS hI h2⟩
theorem lp_say (hI : sp_I sg) (hJ : sp_J sg) {p s t said : Int32} (h : sp_thSay sg p s t said = 0) : sp_I (sp_sayN sg (nN p) (nN s) (nN t) said) ∧ sp_J (sp_sayN sg (nN p) (nN s) (nN t) said) := by
  unfold sp_thSay at h
  by_cases h1 : sp_trip sg p s t = true
  · rw [if_pos h1] at h
    obtain ⟨a, b, c, ha, hb, hb4, hc5, -, -, -, e1, e2, e3⟩ := sp_trip_nat hI h1
    rw [e1, e2, e3] at h ⊢
    unfold sp_thSayN at h
    unfold sp_sayN
    cases q : sp_ent sg (12 * b + a) c with
    | none => rw [q] at h; exact absurd (show (3 : Int32) = 0 from h) (by decide)
    | some u =>
      rw [q] at h
      dsimp only at h ⊢
      obtain ⟨h13, -, v, hv, hth, hhas⟩ := sp_ent_some hI hb4 ha q
      by_cases hs : sp_isSaid (sg 6 (sp_e b u c)) said = true
      · rw [if_pos hs] at h
        by_cases hB : sp_sayB sg a b c u said = true
        · have hj5 : (5 * (12 * b + a) + c) / 5 = 12 * b + a := by omega
          refine ⟨hI.say (by omega) (by rw [hj5, h13]; decide) ⟨hs, ?_⟩, hJ.say⟩
          have hk3 : sg 6 (sp_e b u c) = 0 ∨ sg 6 (sp_e b u c) = 1 ∨ sg 6 (sp_e b u c) = 2 := by
            obtain ⟨hu, -, u4, u3⟩ := sp_has_some hI hb hth hhas
            exact sp_k012 hI hb4 hu.1 hc5 u4 u3
          rcases hk3 with z | z | z
          · exact Or.inl z
          · exact Or.inr (Or.inl z)
          · refine Or.inr (Or.inr ⟨z, ?_⟩)
            obtain ⟨w, hw, hw2⟩ := (hI.i12 (5 * (12 * b + a) + c) (by omega)).2.2.1
            refine ⟨w, ?_, hw2⟩
            rcases Nat.lt_or_ge w 12 with x | x
            · exact x
            · exfalso
              unfold sp_sayB sp_more at hB
              rw [z, hw2, show w = 12 by omega] at hB
              simp at hB
              exact hB.1 rfl
        · rw [if_neg hB] at h
          exact absurd h (by decide)
      · rw [if_neg hs] at h
        exact absurd h (by decide)
  · rw [if_neg h1] at h
    exact absurd h (by decide)
end IJ
