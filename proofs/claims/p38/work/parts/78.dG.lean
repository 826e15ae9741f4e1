/-! hand, close -/
theorem mm_up_2 {sg : mm_S} {j y : Nat} {v w : Int32} : mm_up (mm_up sg j y v) j y w = mm_up sg j y w := funext fun j' => funext fun y' => by
  unfold mm_up
  by_cases z : j' = j ∧ y' = y
  · rw [if_pos z, if_pos z]
  · rw [if_neg z, if_neg z, if_neg z]
theorem sp_handS_j {sg : mm_S} {k i : Nat} (h : i ≠ 13) (h' : i ≠ 15) : sp_handS sg k i = sg i := (mm_up_j h').trans (mm_up_j h)
theorem sp_handS_x {sg : mm_S} {k i y : Nat} (h : y ≠ k) : sp_handS sg k i y = sg i y := by
  unfold sp_handS
  rw [mm_up_xj h, mm_up_xj h]
theorem sp_handS_13 {sg : mm_S} {k : Nat} : sp_handS sg k 13 k = 2 := by
  unfold sp_handS
  rw [mm_up_j (by decide), mm_up_s]
theorem sp_I.hnd {sg : mm_S} (hI : sp_I sg) {k : Nat} {v : Int32} (h : sg 13 k = 1) : sp_I (mm_up (mm_up sg 13 k 2) 15 k v) := sp_I.congr (fun j h15 _ _ => mm_up_j h15) (hI.hand h)
theorem sp_J.hnd {sg : mm_S} (hJ : sp_J sg) {k : Nat} {v : Int32} : sp_J (mm_up (mm_up sg 13 k 2) 15 k v) := by
  have hn : sp_n (mm_up (mm_up sg 13 k 2) 15 k v) = sp_n sg := by unfold sp_n; rw [mm_up_j (by decide), mm_up_j (by decide)]
  refine ⟨by rw [hn, mm_up_j (j' := 2) (by decide), mm_up_j (j' := 2) (by decide)]; exact hJ.1, fun y hy h2 => ?_, by rw [hn, mm_up_j (j' := 10) (by decide), mm_up_j (j' := 10) (by decide), mm_up_j (j' := 11) (by decide), mm_up_j (j' := 11) (by decide)]; exact hJ.2.2⟩
  rw [mm_up_j (by decide)] at h2
  rw [mm_up_j (by decide), mm_up_j (by decide)]
  by_cases z : y = k
  · rw [z, mm_up_s] at h2; exact absurd rfl h2
  · rw [mm_up_x z] at h2; exact hJ.2.1 y hy h2
theorem cr_ok_hand {sg ta ta' : mm_S} (hI : sp_I sg) (hok : cr_ok sg ta) {k : Nat} (h1 : sg 13 k = 1) (hd : ta' 1 k = sp_due sg k) (hP : cr_K ta' k (sp_prs (sp_handS sg k) k)) (ht : ∀ i, i ≠ 1 → i ≠ 2 → i ≠ 3 → i ≠ 5 → ta' i = ta i) (hx : ∀ y, y ≠ k → ta' 1 y = ta 1 y ∧ ta' 2 y = ta 2 y ∧ ∀ i, i < 50 → ta' 3 (50 * y + i) = ta 3 (50 * y + i)) : cr_ok (sp_handS sg k) ta' := by
  have hc : ∀ j, j ≠ 13 → j ≠ 15 → j ≠ 16 → j < 22 → sp_handS sg k j = sg j := fun j h13 h15 _ _ => sp_handS_j h13 h15
  refine ⟨fun g hg => ?_, fun y hy h2 => ?_, fun y hy h0 => ?_, ?_⟩
  · rw [ht 0 (by decide) (by decide) (by decide) (by decide), sp_used_congr (sp_handS_j (by decide) (by decide)) (sp_handS_j (by decide) (by decide)) (sp_handS_j (by decide) (by decide)) (sp_handS_j (by decide) (by decide)) (sp_handS_j (by decide) (by decide)) (sp_handS_j (by decide) (by decide)) (sp_handS_j (by decide) (by decide))]
    exact hok.1 g hg
  · rw [sp_due_congr2 hc]
    by_cases z : y = k
    · rw [z]; exact hd
    · rw [sp_handS_x z] at h2
      rw [(hx y z).1]
      exact hok.2.1 y hy h2
  · refine cr_K.ok ?_
    by_cases z : y = k
    · rw [z]; exact hP
    · rw [sp_handS_x z] at h0
      rw [sp_prs_loc hI hy (sg' := sp_handS sg k) ⟨sp_handS_j (by decide) (by decide), sp_handS_j (by decide) (by decide), sp_handS_j (by decide) (by decide), sp_handS_j (by decide) (by decide), sp_handS_j (by decide) (by decide), sp_handS_x z, fun t _ => by
        rw [sp_handS_j (i := 17) (by decide) (by decide), sp_handS_j (i := 18) (by decide) (by decide), sp_handS_j (i := 19) (by decide) (by decide), sp_handS_j (i := 20) (by decide) (by decide), sp_handS_j (i := 21) (by decide) (by decide)]
        exact ⟨rfl, rfl, rfl, rfl, fun _ _ => rfl⟩⟩ (sp_handS_x z) (sp_handS_x z)]
      exact (hok.K hy h0).congr (hx y z).2.1 (hx y z).2.2
  · show cr_o2 (sp_handS sg k) ta'
    unfold cr_o2
    rw [sp_handS_j (i := 17) (by decide) (by decide), sp_handS_j (i := 18) (by decide) (by decide), sp_handS_j (i := 20) (by decide) (by decide), sp_handS_j (i := 21) (by decide) (by decide)]
    exact hok.o2.congr (ht 8 (by decide) (by decide) (by decide) (by decide)) (ht 4 (by decide) (by decide) (by decide) (by decide))
section HDW
variable {C : hm_C} {k n : Nat} {Q : State → Prop} {M M0 : hm_M} {pc : Nat} {L : List (Option Value)} {st : List Value} {cA : Nat → ClassId} {sg ta : mm_S} {ad : Nat → Nat → Nat}
theorem hr_hand (h : cr_R cA sg ta ad M0 M) {y : Nat} (hK : cr_isK sg y = true) (h1 : sg 13 y = 1) {fs : List Value} (hf : fs = [.ref (ad 13 (16 * (y / 12) + nN (sg 14 y))), .ref (ad 17 y), .int 1, .int (-1), .int (ta 1 y), .int (sg 16 y), .ref (ad 18 y), .int (ta 2 y)]) (kk : ∀ M2 : hm_M, cr_R cA (mm_up (mm_up sg 13 y 2) 15 y (-1)) ta ad M0 M2 → hm_W C k n Q M2 pc L st) : hm_W C k n Q (hm_up M (ad 16 y) (.inr (0, fs))) pc L st := by
  subst hf
  have e : ∀ j, j ≠ 13 → j ≠ 15 → mm_up (mm_up sg 13 y 2) 15 y (-1) j = sg j := fun j h13 h15 => (mm_up_j h15).trans (mm_up_j h13)
  have e13 : ∀ z, mm_up (mm_up sg 13 y 2) 15 y (-1) 13 z = if z = y then 2 else sg 13 z := fun z => by
    rw [mm_up_j (by decide)]
    by_cases w : z = y
    · rw [if_pos w, w, mm_up_s]
    · rw [if_neg w, mm_up_x w]
  have eK : ∀ z, cr_isK (mm_up (mm_up sg 13 y 2) 15 y (-1)) z = cr_isK sg z := fun z => by
    unfold cr_isK sp_n
    rw [e 1 (by decide) (by decide), e13]
    by_cases w : z = y
    · rw [if_pos w, w, h1]; rfl
    · rw [if_neg w]
  refine hr_re1 h (q0 := 16) (x0 := y) (if_pos hK) (fun w hw => ?_) (fun q z w hn hw => ?_) kk
  · cases cr_ob_e hw
    unfold sp_rMark
    rw [e13, if_pos rfl, if_pos rfl, if_pos rfl, mm_up_s, e 14 (by decide) (by decide), e 16 (by decide) (by decide)]
    exact va_sm.rf
  · rcases Nat.lt_or_ge 20 q with hq | hq
    · rw [cr_cell_hi hq] at hw; cases hw
    by_cases q16 : q = 16
    · subst q16
      have hy : z ≠ y := fun w => hn ⟨rfl, w⟩
      exact cr_sm_16 (sg := sg) (ta := ta) (sg' := mm_up (mm_up sg 13 y 2) 15 y (-1)) (ta' := ta) ⟨by rw [e 1 (by decide) (by decide)], by rw [e13, if_neg hy], by rw [e 14 (by decide) (by decide)], by rw [mm_up_x hy, mm_up_j (by decide)], by rw [e 16 (by decide) (by decide)], rfl, rfl⟩ hw
    by_cases q12 : q = 12
    · subst q12
      refine va_sm.ob (cr_sm_S (by rw [e 1 (by decide) (by decide)]) z) (va_sm.r (fun i hi => ?_)) hw
      rw [e13]
      by_cases w : 12 * z + i = y
      · rw [if_pos w, w, if_neg (show ¬ (2 : Int32) = 0 by decide), if_neg (show ¬ sg 13 y = 0 by rw [h1]; decide)]
      · rw [if_neg w]
    by_cases q17 : q = 17
    · subst q17; exact va_sm.ob (eK z) va_sm.rf hw
    by_cases q18 : q = 18
    · subst q18; exact va_sm.ob (eK z) va_sm.rf hw
    by_cases q19 : q = 19
    · subst q19
      refine va_sm.ob (eK (z / 5)) ?_ hw
      rw [e 17 (by decide) (by decide), e 19 (by decide) (by decide), e 20 (by decide) (by decide)]
      exact va_sm.rf
    by_cases q20 : q = 20
    · subst q20; exact va_sm.ob (eK (z / 5)) va_sm.rf hw
    refine (cr_pt_j (sg := sg) (ta := ta) (fun j hj => e j (fun w => ?_) (fun w => ?_)) (fun _ _ => rfl)).sm hw
    · subst w
      rcases (show q = 0 ∨ q = 1 ∨ q = 2 ∨ q = 3 ∨ q = 4 ∨ q = 5 ∨ q = 6 ∨ q = 7 ∨ q = 8 ∨ q = 9 ∨ q = 10 ∨ q = 11 ∨ q = 13 ∨ q = 14 ∨ q = 15 by omega) with rfl | rfl | rfl | rfl | rfl | rfl | rfl | rfl | rfl | rfl | rfl | rfl | rfl | rfl | rfl <;> exact absurd hj (by decide)
    · subst w
      exact q16 (cr_owg_of hj (by decide) (by decide) (by decide) (by decide))
theorem hr_w11 (h : cr_R cA sg ta ad M0 M) {a g : Nat} {v : Int32} (hs : cr_isS sg a = true) (hg : g < 4) (kk : ∀ M2 : hm_M, cr_R cA (mm_up sg 11 (4 * a + g) v) ta ad M0 M2 → hm_W C k n Q M2 pc L st) : hm_W C k n Q (hm_up M (ad 11 a) (.inl (cA 1, 4, .inl (upd (fun g => sg 11 (4 * a + g)) g v)))) pc L st := by
  refine hr_re1 h (q0 := 11) (x0 := a) (if_pos hs) (fun e he => ?_) (fun q y e hn he => ?_) kk
  · cases cr_ob_e he
    refine va_sm.i (fun i hi => ?_)
    unfold upd
    by_cases z : i = g
    · rw [if_pos z, z, mm_up_s]
    · rw [if_neg z, mm_up_x (by omega)]
  · by_cases hq : q = 11
    · subst hq
      have hy : y ≠ a := fun z => hn ⟨rfl, z⟩
      exact cr_sm_11 (sg := sg) (ta := ta) (sg' := mm_up sg 11 (4 * a + g) v) (ta' := ta) ⟨by rw [mm_up_j (by decide)], fun i hi => mm_up_x (by omega)⟩ he
    · exact cr_one_g (j0 := 11) (fun j hj => mm_up_j hj) (by decide) (by decide) (by decide) (by decide) hq he
end HDW
section FGT
variable {sg : mm_S} {k : Nat}
theorem sp_fgT_j {i : Nat} (h : ¬ (i = 13 ∨ i = 17 ∨ i = 18 ∨ i = 19 ∨ i = 20)) : ∀ n, sp_fgT sg k n i = sg i
  | 0 => mm_up_j (by omega)
  | n + 1 => by
    unfold sp_fgT
    rw [mm_up_j (by omega), mm_up_j (by omega), mm_up_j (by omega), mm_up_j (by omega), sp_fgT_j h n]
theorem sp_fgT_13 : ∀ n, sp_fgT sg k n 13 = mm_up sg 13 k 0 13
  | 0 => rfl
  | n + 1 => by
    unfold sp_fgT
    rw [mm_up_j (by decide), mm_up_j (by decide), mm_up_j (by decide), mm_up_j (by decide), sp_fgT_13 n]
theorem sp_fgT_v {i : Nat} (h : i = 17 ∨ i = 18 ∨ i = 19 ∨ i = 20) (y : Nat) : ∀ n, sp_fgT sg k n i y = if 5 * k ≤ y ∧ y < 5 * k + n then 0 else sg i y
  | 0 => by
    rw [if_neg (by omega)]
    show mm_up sg 13 k 0 i y = _
    rw [mm_up_j (by omega)]
  | n + 1 => by
    have ih := sp_fgT_v h y n
    unfold sp_fgT
    by_cases z : y = 5 * k + n
    · rw [if_pos (by omega), z]
      rcases h with rfl | rfl | rfl | rfl <;> simp [mm_up]
    · rw [mm_up_xj z, mm_up_xj z, mm_up_xj z, mm_up_xj z, ih]
      by_cases w : 5 * k ≤ y ∧ y < 5 * k + n
      · rw [if_pos w, if_pos (by omega)]
      · rw [if_neg w, if_neg (by omega)]
theorem sp_fgT_0 {i y : Nat} (h : i = 17 ∨ i = 18 ∨ i = 19 ∨ i = 20) (hy : y / 5 = k) : sp_fgT sg k 5 i y = 0 := by rw [sp_fgT_v h, if_pos (by omega)]
theorem sp_fgT_n {i y : Nat} (h : i = 17 ∨ i = 18 ∨ i = 19 ∨ i = 20) (hy : y / 5 ≠ k) : sp_fgT sg k 5 i y = sg i y := by rw [sp_fgT_v h, if_neg (by omega)]
theorem sp_fgT_13x {y : Nat} (h : y ≠ k) : sp_fgT sg k 5 13 y = sg 13 y := by rw [sp_fgT_13, mm_up_x h]
theorem sp_fgT_13k : sp_fgT sg k 5 13 k = 0 := by rw [sp_fgT_13, mm_up_s]
theorem sp_I.fgt (hI : sp_I sg) : sp_I (sp_fgT sg k 5) := by
  have hn : sp_n (sp_fgT sg k 5) = sp_n sg := by unfold sp_n; rw [sp_fgT_j (by decide)]
  have hth : ∀ s v, sp_th (sp_fgT sg k 5) s v ↔ sp_th sg s v := fun s v => by unfold sp_th; rw [sp_fgT_j (by decide)]
  refine ⟨?_, ?_, ?_, ?_, ?_, ?_, ?_, fun s q hs hq => ?_, fun y hy => ?_, ?_⟩
  · unfold sp_I1; rw [hn, sp_fgT_j (by decide)]; exact hI.i1
  · unfold sp_I2; rw [hn, sp_fgT_j (by decide)]; simp only [hth]; exact hI.i2
  · unfold sp_I3; rw [hn, sp_fgT_j (by decide), sp_fgT_j (by decide)]; simp only [hth]; exact hI.i3
  · unfold sp_I4; rw [sp_fgT_j (i := 2) (by decide), sp_fgT_j (i := 11) (by decide)]
    refine ⟨hI.i4.1, hI.i4.2.1, fun y hy => ?_⟩
    by_cases z : y / 5 = k
    · rw [sp_fgT_0 (Or.inl rfl) z]; exact Or.inl rfl
    · rw [sp_fgT_n (Or.inl rfl) z]; exact hI.i4.2.2 y hy
  · unfold sp_I5; rw [sp_fgT_j (by decide), sp_fgT_j (by decide)]; exact hI.i5
  · unfold sp_I6; rw [sp_fgT_j (by decide), sp_fgT_j (by decide), sp_fgT_j (by decide), sp_fgT_j (by decide)]; exact hI.i6
  · unfold sp_I7; rw [hn, sp_fgT_j (by decide)]; simp only [hth]; exact hI.i7
  · rw [hn, sp_fgT_j (i := 14) (by decide)]
    simp only [hth]
    by_cases z : 12 * s + q = k
    · rw [z, sp_fgT_13k]
      exact Or.inl ⟨rfl, fun t ht => ⟨sp_fgT_0 (Or.inl rfl) (by omega), sp_fgT_0 (by omega) (by omega), sp_fgT_0 (by omega) (by omega)⟩⟩
    · rw [sp_fgT_13x z]
      rcases hI.i9 s q hs hq with ⟨h1, h2⟩ | h
      · refine Or.inl ⟨h1, fun t ht => ?_⟩
        rw [sp_fgT_n (Or.inl rfl) (by omega), sp_fgT_n (i := 19) (by omega) (by omega), sp_fgT_n (i := 20) (by omega) (by omega)]
        exact h2 t ht
      · exact Or.inr h
  · obtain ⟨a1, a2, a3, a4⟩ := hI.i12 y hy
    rw [sp_fgT_j (i := 21) (by decide)]
    by_cases z : y / 5 = k
    · rw [sp_fgT_0 (by omega) z, sp_fgT_0 (by omega) z, sp_fgT_0 (by omega) z]
      exact ⟨by decide, ⟨0, by decide, rfl⟩, ⟨0, by decide, rfl⟩, a4⟩
    · rw [sp_fgT_n (by omega) z, sp_fgT_n (by omega) z, sp_fgT_n (by omega) z]
      exact ⟨a1, a2, a3, a4⟩
  · unfold sp_I13; rw [sp_fgT_j (by decide)]; exact hI.i13
theorem sp_J.fgt (hJ : sp_J sg) (h1 : sg 13 k = 1) : sp_J (sp_fgT sg k 5) := by
  have hn : sp_n (sp_fgT sg k 5) = sp_n sg := by unfold sp_n; rw [sp_fgT_j (by decide)]
  refine ⟨by rw [hn, sp_fgT_j (by decide)]; exact hJ.1, fun y hy h2 => ?_, by rw [hn, sp_fgT_j (by decide), sp_fgT_j (by decide)]; exact hJ.2.2⟩
  rw [sp_fgT_j (by decide)]
  by_cases z : y = k
  · exact hJ.2.1 y hy (by rw [z, h1]; decide)
  · rw [sp_fgT_13x z] at h2
    exact hJ.2.1 y hy h2
theorem cr_ok_fgt {ta : mm_S} (hI : sp_I sg) (hok : cr_ok sg ta) (hk : k < 48) (h1 : sg 13 k = 1) : cr_ok (sp_fgT sg k 5) (mm_up ta 0 (k % 12 / 3) (ta 0 (k % 12 / 3) + -sp_taken sg k)) := by
  have loc : ∀ y, y ≠ k → sp_loc sg (sp_fgT sg k 5) y := fun y hy => ⟨sp_fgT_j (by decide) 5, sp_fgT_j (by decide) 5, sp_fgT_j (by decide) 5, sp_fgT_j (by decide) 5, sp_fgT_j (by decide) 5, by rw [sp_fgT_j (by decide)], fun t ht => ⟨sp_fgT_n (by omega) (by omega), sp_fgT_n (by omega) (by omega), sp_fgT_n (by omega) (by omega), sp_fgT_n (by omega) (by omega), fun i _ => by rw [sp_fgT_j (by decide)]⟩⟩
  have etk : ∀ y, y ≠ k → sp_taken (sp_fgT sg k 5) y = sp_taken sg y := fun y hy => sp_is_congr 5 (fun t ht => by
    unfold sp_tk
    rw [sp_fgT_n (i := 17) (by omega) (by omega), sp_fgT_n (i := 19) (by omega) (by omega), sp_fgT_n (i := 20) (by omega) (by omega)])
  have etk0 : sp_taken (sp_fgT sg k 5) k = 0 := sp_is_zero 5 (fun t ht => by
    unfold sp_tk
    rw [sp_fgT_0 (i := 17) (by omega) (by omega), sp_fgT_0 (i := 19) (by omega) (by omega), sp_fgT_0 (i := 20) (by omega) (by omega)]
    rfl)
  refine ⟨fun g hg => ?_, fun y hy h2 => ?_, fun y hy h0 => ?_, fun j hj h => ?_, fun j i hj hi h => ?_⟩
  · have hu : sp_used (sp_fgT sg k 5) (nI g) = sp_used sg (nI g) + (if nI (k % 12 / 3) = nI g then -sp_taken sg k else 0) := by
      unfold sp_used
      rw [sp_is_congr (f := sp_usE (sp_fgT sg k 5) (nI g)) (g := sp_usE sg (nI g)) 320 (fun y _ => by
        unfold sp_usE sp_cost
        rw [sp_fgT_j (i := 2) (by decide), sp_fgT_j (i := 4) (by decide), sp_fgT_j (i := 6) (by decide), sp_fgT_j (i := 8) (by decide)])]
      rw [sp_is_one (f := sp_usA sg (nI g)) (f' := sp_usA (sp_fgT sg k 5) (nI g)) (e := k) (fun y hy => by unfold sp_usA; rw [etk y hy]) 48 hk, ← Int32.add_assoc]
      congr 1
      unfold sp_usA
      rw [etk0]
      by_cases z : nI (k % 12 / 3) = nI g
      · rw [if_pos z, if_pos z, if_pos z, Int32.zero_sub]
      · rw [if_neg z, if_neg z, if_neg z, Int32.sub_self]
    rw [hu, ← hok.1 g hg]
    by_cases z : g = k % 12 / 3
    · rw [z, mm_up_s, if_pos rfl]
    · rw [mm_up_x z, if_neg (fun w => z ((nI_eq (by omega) (by omega)).mp w).symm), Int32.add_zero]
  · have z : y ≠ k := fun z => by rw [z, sp_fgT_13k] at h2; exact absurd h2 (by decide)
    rw [sp_fgT_13x z] at h2
    rw [mm_up_j (by decide), sp_due_loc hI hy (loc y z)]
    exact hok.2.1 y hy h2
  · have z : y ≠ k := fun z => by rw [z, sp_fgT_13k] at h0; exact absurd rfl h0
    rw [sp_fgT_13x z] at h0
    refine cr_K.ok ?_
    rw [sp_prs_loc hI hy (loc y z) (sp_fgT_13x z) (by rw [sp_fgT_j (by decide)])]
    exact (hok.K hy h0).congr (by rw [mm_up_j (by decide)]) (fun i _ => by rw [mm_up_j (by decide)])
  · rw [mm_up_j (by decide)]
    by_cases z : j / 5 = k
    · rw [sp_fgT_0 (Or.inl rfl) z] at h; exact absurd rfl h
    · rw [sp_fgT_n (Or.inl rfl) z] at h
      rw [sp_fgT_n (by omega) z]
      exact hok.2.2.2.1 j hj h
  · rw [mm_up_j (by decide), sp_fgT_j (i := 21) (by decide)]
    by_cases z : j / 5 = k
    · rw [sp_fgT_0 (by omega) z] at h
      exact absurd ((nI_ltI (a := i) (b := 0) (by omega) (by decide)).mp h) (Nat.not_lt_zero i)
    · rw [sp_fgT_n (by omega) z] at h
      exact hok.2.2.2.2 j i hj hi h
end FGT
section FGW
variable {C : hm_C} {k n : Nat} {Q : State → Prop} {M M0 : hm_M} {pc : Nat} {L : List (Option Value)} {st : List Value} {cA : Nat → ClassId} {sg ta : mm_S} {ad : Nat → Nat → Nat}
theorem hr_fgt (h : cr_R cA sg ta ad M0 M) {a p : Nat} (hs : cr_isS sg a = true) (hp : p < 12) (kk : ∀ M2 : hm_M, cr_R cA (sp_fgT sg (12 * a + p) 5) ta ad M0 M2 → hm_W C k n Q M2 pc L st) : hm_W C k n Q (hm_up M (ad 12 a) (.inl (cA 6, 12, .inr (.inr (.inr (.inr (va_up (fun p => if sg 13 (12 * a + p) = 0 then none else some (ad 16 (12 * a + p))) p none))))))) pc L st := by
  have e1 : sp_fgT sg (12 * a + p) 5 1 = sg 1 := sp_fgT_j (by decide) 5
  have hd : cr_isK (sp_fgT sg (12 * a + p) 5) (12 * a + p) = false := by unfold cr_isK; rw [sp_fgT_13k]; exact Bool.and_false _
  refine hr_re1 h (q0 := 12) (x0 := a) (if_pos hs) (fun e he => ?_) (fun q y e hn he => ?_) kk
  · cases cr_ob_e he
    refine va_sm.r (fun i hi => ?_)
    unfold va_up
    by_cases z : i = p
    · rw [if_pos z, z, sp_fgT_13k, if_pos rfl]
    · rw [if_neg z, sp_fgT_13x (by omega)]
  · have hpt : cr_pt sg ta (sp_fgT sg (12 * a + p) 5) ta q y := by
      rcases Nat.lt_or_ge 20 q with hq | hq
      · rw [cr_cell_hi hq] at he; cases he
      have dk : ∀ z, cr_ob (cr_isK (sp_fgT sg (12 * a + p) 5) z) (cr_iw cA 0 0 (fun _ => 0)) ≠ none → z ≠ 12 * a + p := fun z hz w => hz (by rw [w, hd]; rfl)
      have dk2 : ∀ z (w : va_E), cr_ob (cr_isK (sp_fgT sg (12 * a + p) 5) z) w = some e → z ≠ 12 * a + p := fun z w hw x => by rw [x, hd] at hw; cases hw
      rcases (show q = 0 ∨ q = 1 ∨ q = 2 ∨ q = 3 ∨ q = 4 ∨ q = 5 ∨ q = 6 ∨ q = 7 ∨ q = 8 ∨ q = 9 ∨ q = 10 ∨ q = 11 ∨ q = 12 ∨ q = 13 ∨ q = 14 ∨ q = 15 ∨ q = 16 ∨ q = 17 ∨ q = 18 ∨ q = 19 ∨ q = 20 by omega) with rfl | rfl | rfl | rfl | rfl | rfl | rfl | rfl | rfl | rfl | rfl | rfl | rfl | rfl | rfl | rfl | rfl | rfl | rfl | rfl | rfl
      · exact congrFun e1 0
      · exact congrFun e1 0
      · exact fun i _ => by rw [sp_fgT_j (i := 12) (by decide)]
      · exact fun _ _ => rfl
      · exact fun _ _ => rfl
      · trivial
      · exact fun _ _ => rfl
      · exact fun _ _ => rfl
      · exact ⟨congrFun e1 0, by rw [sp_fgT_j (by decide)]⟩
      · exact ⟨congrFun e1 0, fun v hv => by rw [sp_fgT_j (by decide)]⟩
      · exact ⟨congrFun e1 0, fun v hv => by rw [sp_fgT_j (by decide)]⟩
      · exact ⟨congrFun e1 0, fun v hv => by rw [sp_fgT_j (by decide)]⟩
      · exact ⟨congrFun e1 0, fun v hv => sp_fgT_13x (fun z => hn ⟨rfl, by omega⟩)⟩
      · exact ⟨congrFun e1 0, by rw [sp_fgT_j (by decide)], by rw [sp_fgT_j (by decide)], by rw [sp_fgT_j (by decide)]⟩
      · exact ⟨congrFun e1 0, by rw [sp_fgT_j (by decide)], fun t' ht' => by rw [sp_fgT_j (by decide)]⟩
      · exact ⟨congrFun e1 0, by rw [sp_fgT_j (by decide)], by rw [sp_fgT_j (by decide)], by rw [sp_fgT_j (by decide)], by rw [sp_fgT_j (by decide)]⟩
      · exact ⟨congrFun e1 0, sp_fgT_13x (dk2 y _ he), by rw [sp_fgT_j (by decide)], by rw [sp_fgT_j (by decide)], by rw [sp_fgT_j (by decide)], rfl, rfl⟩
      · exact ⟨congrFun e1 0, sp_fgT_13x (dk2 y _ he)⟩
      · exact ⟨congrFun e1 0, sp_fgT_13x (dk2 y _ he), fun _ _ => rfl⟩
      · exact ⟨congrFun e1 0, sp_fgT_13x (dk2 (y / 5) _ he), sp_fgT_n (by omega) (dk2 (y / 5) _ he), sp_fgT_n (by omega) (dk2 (y / 5) _ he), sp_fgT_n (by omega) (dk2 (y / 5) _ he), rfl⟩
      · exact ⟨congrFun e1 0, sp_fgT_13x (dk2 (y / 5) _ he), fun _ _ => rfl⟩
    exact hpt.sm he
end FGW
