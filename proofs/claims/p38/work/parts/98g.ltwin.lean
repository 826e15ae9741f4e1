/-! the twins: the walk -/
abbrev r_L_twins : Room := { frames := 10, cells := 185, slots := 1253, locals := 260 }
set_option maxHeartbeats 4000000 in
set_option maxRecDepth 100000 in
theorem w_T1 {C : hm_C} {nm : String} {Q : State → Prop} {cA : Nat → ClassId} {sg : mm_S} {N M : hm_M} {b nr cr : Nat} (X : hm_X C RL cL_twins 7 (some .boolean) nm r_L_twins cA) (hI : sp_I sg) (hJ : sp_J sg) (hK : sp_K sg) (hQ : ls_Q cA N b sg M) (kk : ∀ (z9 : mm_S) (M9 : hm_M), tw_S z9 (nI 5) (tw_s 1 1) (tw_w 0 0) 0 0 0 106 → (∀ a, a < 2 → z9 5 a = sg 5 a) → ls_Q cA N b z9 M9 → hm_W C 51 449 Q M9 76 [some (.ref b), some (.ref nr), some (.ref cr), some (.int (nI 2)), some (.int (nI 1)), some (.int (nI 0)), none] []) : hm_W C 0 0 Q M 0 [some (.ref b), some (.ref nr), some (.ref cr), none, none, none, none] [] := by
  obtain ⟨e1, hw, s1, s2, s3, x1, hI1, hJ1, x2, hq, h0, hI2, hJ2, hth, x5, x3, hS0⟩ := tw_begin hI hJ hK
  refine hr_aload_n X (tL_at tL_twins_0_ok 0 rfl) rfl (Or.inr ⟨_, rfl⟩) ?_
  refine hl_rs0 X kSL_sheets (tL_at tL_twins_0_ok 1 rfl) (c_L_sheets cA hI hJ hQ) hw rfl rfl rfl (Nat.le_of_ble_eq_true rfl) 8 56 ⟨⟨(Nat.le_of_ble_eq_true rfl), (Nat.le_of_ble_eq_true rfl)⟩, (Nat.le_of_ble_eq_true rfl), (Nat.le_of_ble_eq_true rfl)⟩ (Nat.le_of_ble_eq_true rfl) (Nat.le_of_ble_eq_true rfl) (fun M1 hQ1 => ?_)
  rw [e1]
  rw [x1] at hQ1
  refine hr_istore_n X (tL_at tL_twins_0_ok 2 rfl) (Nat.le_of_ble_eq_true rfl) ?_
  refine hr_iload_n X (tL_at tL_twins_0_ok 3 rfl) rfl ?_
  refine hr_if_ge 21 X (tL_at tL_twins_0_ok 4 rfl) (by decide) (fun _ => ?_) (fun c => absurd (nI_pos' (by decide)) c)
  refine hr_aload_n X (tL_at tL_twins_0_ok 12 rfl) rfl (Or.inr ⟨_, rfl⟩) ?_
  refine hr_iconst (nI 1) X (tL_at tL_twins_0_ok 13 rfl) (by decide) ?_
  refine hr_sipush (nI 1000) X (tL_at tL_twins_0_ok 14 rfl) (by decide) ?_
  refine hl_rs0 X kSL_quotas (tL_at tL_twins_0_ok 15 rfl) (c_L_quotas cA hI1 hJ1 hQ1 (nI 1) (nI 1000)) hq rfl rfl rfl (Nat.le_of_ble_eq_true rfl) 10 68 ⟨⟨(Nat.le_of_ble_eq_true rfl), (Nat.le_of_ble_eq_true rfl)⟩, (Nat.le_of_ble_eq_true rfl), (Nat.le_of_ble_eq_true rfl)⟩ (Nat.le_of_ble_eq_true rfl) (Nat.le_of_ble_eq_true rfl) (fun M2 hQ2 => ?_)
  rw [x2] at hQ2
  refine hr_if_lt 70 X (tL_at tL_twins_0_ok 16 rfl) (by decide) (fun c => absurd c (Int32.not_lt.mpr h0)) (fun _ => ?_)
  refine hr_aload_n X (tL_at tL_twins_0_ok 17 rfl) rfl (Or.inr ⟨_, rfl⟩) ?_
  refine hr_iconst (nI 1) X (tL_at tL_twins_0_ok 18 rfl) (by decide) ?_
  refine hr_iload_n X (tL_at tL_twins_0_ok 19 rfl) rfl ?_
  refine hr_iconst (nI 4) X (tL_at tL_twins_0_ok 20 rfl) (by decide) ?_
  refine hr_bipush (nI 10) X (tL_at tL_twins_0_ok 21 rfl) (by decide) ?_
  refine hr_iconst (nI 5) X (tL_at tL_twins_0_ok 22 rfl) (by decide) ?_
  refine hl_rs0 X kSL_words (tL_at tL_twins_0_ok 23 rfl) (c_L_words cA hI2 hJ2 hQ2 (nI 1) (nI 2) (nI 4) (nI 10) (nI 5)) hth rfl rfl rfl (Nat.le_of_ble_eq_true rfl) 19 117 ⟨⟨(Nat.le_of_ble_eq_true rfl), (Nat.le_of_ble_eq_true rfl)⟩, (Nat.le_of_ble_eq_true rfl), (Nat.le_of_ble_eq_true rfl)⟩ (Nat.le_of_ble_eq_true rfl) (Nat.le_of_ble_eq_true rfl) (fun M3 hQ3 => ?_)
  rw [x5]
  rw [x3] at hQ3
  have f0 : ∀ a, a < 2 → s3 5 a = sg 5 a := fun a ha => by
    rw [← x3]
    unfold sp_rev
    rw [sp_revA_r5, mm_up_x (show a ≠ nN (nI 2) by have : nN (nI 2) = 2 := rfl; omega), ← x2, mm_up_j (by decide), ← x1, sp_addS_5x (by rw [hK.1]; omega)]
  have hS00 := hS0.eq (st' := tw_s 0 0) (w' := tw_w 0 0) (by decide) (by decide)
  refine hr_iconst (nI 1) X (tL_at tL_twins_0_ok 24 rfl) (by decide) ?_
  refine hr_icmp_ne 70 X (tL_at tL_twins_0_ok 25 rfl) (by decide) (fun c => absurd rfl c) (fun _ => ?_)
  refine hr_aload_n X (tL_at tL_twins_0_ok 26 rfl) rfl (Or.inr ⟨_, rfl⟩) ?_
  refine hr_iconst (nI 4) X (tL_at tL_twins_0_ok 27 rfl) (by decide) ?_
  refine hr_iload_n X (tL_at tL_twins_0_ok 28 rfl) rfl ?_
  obtain ⟨t1, r1, g1⟩ := tw_open hS00 (p := 4) (by decide) (by decide) (by decide)
  obtain ⟨z1, y1⟩ : ∃ zz, sp_openS s3 (nN (nI 4)) (nN (nI 2)) = zz := ⟨_, rfl⟩
  rw [y1] at g1
  have hS1 : tw_S z1 (nI 5) (tw_s 1 0) (tw_w 0 0) 0 0 0 106 := g1.eq (st' := (tw_s 1 0)) (w' := (tw_w 0 0)) (by decide) (by decide)
  have f1 : ∀ a, a < 2 → z1 5 a = sg 5 a := fun a ha => by rw [← y1, sp_openS_j (by decide) (by decide)]; exact f0 a ha
  refine hl_rs0 X kSL_opens (tL_at tL_twins_0_ok 29 rfl) (c_L_opens cA hS00.1.1 hS00.1.2.1 hQ3 (nI 4) (nI 2)) t1 rfl rfl rfl (Nat.le_of_ble_eq_true rfl) 35 283 ⟨⟨(Nat.le_of_ble_eq_true rfl), (Nat.le_of_ble_eq_true rfl)⟩, (Nat.le_of_ble_eq_true rfl), (Nat.le_of_ble_eq_true rfl)⟩ (Nat.le_of_ble_eq_true rfl) (Nat.le_of_ble_eq_true rfl) (fun M4 hQ4 => ?_)
  rw [r1]
  rw [y1] at hQ4
  refine hr_iconst (nI 1) X (tL_at tL_twins_0_ok 30 rfl) (by decide) ?_
  refine hr_icmp_ne 70 X (tL_at tL_twins_0_ok 31 rfl) (by decide) (fun c => absurd rfl c) (fun _ => ?_)
  refine hr_aload_n X (tL_at tL_twins_0_ok 32 rfl) rfl (Or.inr ⟨_, rfl⟩) ?_
  refine hr_iconst (nI 5) X (tL_at tL_twins_0_ok 33 rfl) (by decide) ?_
  refine hr_iload_n X (tL_at tL_twins_0_ok 34 rfl) rfl ?_
  obtain ⟨t2, r2, g2⟩ := tw_open hS1 (p := 5) (by decide) (by decide) (by decide)
  obtain ⟨z2, y2⟩ : ∃ zz, sp_openS z1 (nN (nI 5)) (nN (nI 2)) = zz := ⟨_, rfl⟩
  rw [y2] at g2
  have hS2 : tw_S z2 (nI 5) (tw_s 1 1) (tw_w 0 0) 0 0 0 106 := g2.eq (st' := (tw_s 1 1)) (w' := (tw_w 0 0)) (by decide) (by decide)
  have f2 : ∀ a, a < 2 → z2 5 a = sg 5 a := fun a ha => by rw [← y2, sp_openS_j (by decide) (by decide)]; exact f1 a ha
  refine hl_rs0 X kSL_opens (tL_at tL_twins_0_ok 35 rfl) (c_L_opens cA hS1.1.1 hS1.1.2.1 hQ4 (nI 5) (nI 2)) t2 rfl rfl rfl (Nat.le_of_ble_eq_true rfl) 51 449 ⟨⟨(Nat.le_of_ble_eq_true rfl), (Nat.le_of_ble_eq_true rfl)⟩, (Nat.le_of_ble_eq_true rfl), (Nat.le_of_ble_eq_true rfl)⟩ (Nat.le_of_ble_eq_true rfl) (Nat.le_of_ble_eq_true rfl) (fun M5 hQ5 => ?_)
  rw [r2]
  rw [y2] at hQ5
  refine hr_iconst (nI 1) X (tL_at tL_twins_0_ok 36 rfl) (by decide) ?_
  refine hr_icmp_ne 70 X (tL_at tL_twins_0_ok 37 rfl) (by decide) (fun c => absurd rfl c) (fun _ => ?_)
  refine hr_iconst (nI 1) X (tL_at tL_twins_0_ok 38 rfl) (by decide) ?_
  refine hr_goto 71 X (tL_at tL_twins_0_ok 39 rfl) (by decide) ?_
  refine hr_istore X (tL_at tL_twins_0_ok 41 rfl) (Nat.le_of_ble_eq_true rfl) ?_
  refine hr_iconst (nI 0) X (tL_at tL_twins_0_ok 42 rfl) (by decide) ?_
  refine hr_istore X (tL_at tL_twins_0_ok 43 rfl) (Nat.le_of_ble_eq_true rfl) ?_
  exact kk _ _ hS2 f2 hQ5
theorem tw_w4 (i : Nat) : ∀ p, p < 12 → (fun q => if q = 4 then i + 1 else tw_w i i q) p = tw_w (i + 1) i p := fun p _ => by
  unfold tw_w
  by_cases h : p = 4
  · rw [if_pos h]; exact if_pos h
  · rw [if_neg h]; exact (if_neg h).trans (if_neg h)
theorem tw_w5 (i : Nat) : ∀ p, p < 12 → (fun q => if q = 5 then i + 1 else tw_w (i + 1) i q) p = tw_w (i + 1) (i + 1) p := fun p _ => by
  unfold tw_w
  by_cases h : p = 5
  · subst h; rfl
  · by_cases h4 : p = 4
    · subst h4; rfl
    · rw [if_neg h4, if_neg h]; exact (if_neg h).trans ((if_neg h4).trans (if_neg h))
set_option maxHeartbeats 4000000 in
set_option maxRecDepth 100000 in
theorem w_T2 {C : hm_C} {nm : String} {Q : State → Prop} {cA : Nat → ClassId} {sg : mm_S} {N M : hm_M} {b nr cr : Nat} {z : mm_S} {i kr sr : Nat} (X : hm_X C RL cL_twins 7 (some .boolean) nm r_L_twins cA) (hkr : kr + 16 ≤ 185) (hsr : sr + 96 ≤ 1253) (hi : i < 5) (hS : tw_S z (nI 5) (tw_s 1 1) (tw_w (i) (i)) 0 0 0 (106 + 12 * i)) (f : ∀ a, a < 2 → z 5 a = sg 5 a) (hQ : ls_Q cA N b z M) (kk : ∀ (z9 : mm_S) (M9 : hm_M), tw_S z9 (nI 5) (tw_s 1 1) (tw_w (i + 1) (i + 1)) 0 0 0 (106 + 12 * (i + 1)) → (∀ a, a < 2 → z9 5 a = sg 5 a) → ls_Q cA N b z9 M9 → hm_W C (kr + 16) (sr + 96) Q M9 76 [some (.ref b), some (.ref nr), some (.ref cr), some (.int (nI 2)), some (.int (nI 1)), some (.int (nI (i + 1))), none] []) : hm_W C kr sr Q M 76 [some (.ref b), some (.ref nr), some (.ref cr), some (.int (nI 2)), some (.int (nI 1)), some (.int (nI i)), none] [] := by
  refine hr_iload X (tL_at tL_twins_0_ok 44 rfl) rfl ?_
  refine hr_iconst (nI 5) X (tL_at tL_twins_0_ok 45 rfl) (by decide) ?_
  refine hr_icmp_ge 138 X (tL_at tL_twins_0_ok 46 rfl) (by decide) (fun c => absurd c (nI_ge hi (by decide))) (fun _ => ?_)
  refine hr_iload X (tL_at tL_twins_0_ok 47 rfl) rfl ?_
  refine hr_if_eq 138 X (tL_at tL_twins_0_ok 48 rfl) (by decide) (fun c => absurd c (by decide)) (fun _ => ?_)
  refine hr_iconst (nI 1) X (tL_at tL_twins_0_ok 49 rfl) (by decide) ?_
  refine hr_iload X (tL_at tL_twins_0_ok 50 rfl) rfl ?_
  refine hl_iadd X (tL_at tL_twins_0_ok 51 rfl) ?_
  refine hr_istore X (tL_at tL_twins_0_ok 52 rfl) (Nat.le_of_ble_eq_true rfl) ?_
  refine hr_aload_n X (tL_at tL_twins_0_ok 53 rfl) rfl (Or.inr ⟨_, rfl⟩) ?_
  refine hr_iconst (nI 4) X (tL_at tL_twins_0_ok 54 rfl) (by decide) ?_
  refine hr_iload_n X (tL_at tL_twins_0_ok 55 rfl) rfl ?_
  refine hr_iconst (nI 4) X (tL_at tL_twins_0_ok 56 rfl) (by decide) ?_
  refine hr_iconst (nI 5) X (tL_at tL_twins_0_ok 57 rfl) (by decide) ?_
  refine hr_iload X (tL_at tL_twins_0_ok 58 rfl) rfl ?_
  refine hl_iadd X (tL_at tL_twins_0_ok 59 rfl) ?_
  obtain ⟨t1, r1, g1⟩ := tw_say hS (by omega) (p := 4) (n := i) (by decide) (by decide) (by decide) rfl hi
  obtain ⟨z1, y1⟩ : ∃ zz, sp_sayN z (nN (nI 4)) (nN (nI 2)) (nN (nI 4)) (nI (5 + i)) = zz := ⟨_, rfl⟩
  rw [y1] at g1
  have hS1 : tw_S z1 (nI 5) (tw_s 1 1) (tw_w (i + 1) i) 0 0 0 (106 + 12 * i + 6) := g1.eq (st' := (tw_s 1 1)) (w' := (tw_w (i + 1) i)) (fun _ _ => rfl) (tw_w4 i)
  have f1 : ∀ a, a < 2 → z1 5 a = sg 5 a := fun a ha => by rw [← y1, la_sj (by decide)]; exact f a ha
  refine hl_rs0 X kSL_says (tL_at tL_twins_1_ok 0 rfl) (c_L_says cA hS.1.1 hS.1.2.1 hQ (nI 4) (nI 2) (nI 4) (nI (5 + i))) t1 rfl rfl rfl (Nat.le_of_ble_eq_true rfl) (kr + 8) (sr + 48) ⟨⟨(Nat.le_of_ble_eq_true rfl), (Nat.le_of_ble_eq_true rfl)⟩, (show kr + 0 + 8 ≤ 185 by omega), (show sr + 0 + 48 ≤ 1253 by omega)⟩ (show kr + 0 + 8 ≤ kr + 8 by omega) (show sr + 0 + 48 ≤ sr + 48 by omega) (fun M1 hQ1 => ?_)
  rw [r1]
  rw [y1] at hQ1
  refine hr_iload X (tL_at tL_twins_1_ok 1 rfl) rfl ?_
  refine hr_icmp_ne 129 X (tL_at tL_twins_1_ok 2 rfl) (by decide) (fun c => absurd (by rw [Nat.add_comm]) c) (fun _ => ?_)
  refine hr_aload_n X (tL_at tL_twins_1_ok 3 rfl) rfl (Or.inr ⟨_, rfl⟩) ?_
  refine hr_iconst (nI 5) X (tL_at tL_twins_1_ok 4 rfl) (by decide) ?_
  refine hr_iload_n X (tL_at tL_twins_1_ok 5 rfl) rfl ?_
  refine hr_iconst (nI 4) X (tL_at tL_twins_1_ok 6 rfl) (by decide) ?_
  refine hr_iconst (nI 5) X (tL_at tL_twins_1_ok 7 rfl) (by decide) ?_
  refine hr_iload X (tL_at tL_twins_1_ok 8 rfl) rfl ?_
  refine hl_iadd X (tL_at tL_twins_1_ok 9 rfl) ?_
  obtain ⟨t2, r2, g2⟩ := tw_say hS1 (by omega) (p := 5) (n := i) (by decide) (by decide) (by decide) rfl hi
  obtain ⟨z2, y2⟩ : ∃ zz, sp_sayN z1 (nN (nI 5)) (nN (nI 2)) (nN (nI 4)) (nI (5 + i)) = zz := ⟨_, rfl⟩
  rw [y2] at g2
  have hS2 : tw_S z2 (nI 5) (tw_s 1 1) (tw_w (i + 1) (i + 1)) 0 0 0 (106 + 12 * i + 6 + 6) := g2.eq (st' := (tw_s 1 1)) (w' := (tw_w (i + 1) (i + 1))) (fun _ _ => rfl) (tw_w5 i)
  have f2 : ∀ a, a < 2 → z2 5 a = sg 5 a := fun a ha => by rw [← y2, la_sj (by decide)]; exact f1 a ha
  refine hl_rs0 X kSL_says (tL_at tL_twins_1_ok 10 rfl) (c_L_says cA hS1.1.1 hS1.1.2.1 hQ1 (nI 5) (nI 2) (nI 4) (nI (5 + i))) t2 rfl rfl rfl (Nat.le_of_ble_eq_true rfl) (kr + 16) (sr + 96) ⟨⟨(Nat.le_of_ble_eq_true rfl), (Nat.le_of_ble_eq_true rfl)⟩, (show kr + 8 + 8 ≤ 185 by omega), (show sr + 48 + 48 ≤ 1253 by omega)⟩ (show kr + 8 + 8 ≤ kr + 16 by omega) (show sr + 48 + 48 ≤ sr + 96 by omega) (fun M2 hQ2 => ?_)
  rw [r2]
  rw [y2] at hQ2
  refine hr_iload X (tL_at tL_twins_1_ok 11 rfl) rfl ?_
  refine hr_icmp_ne 129 X (tL_at tL_twins_1_ok 12 rfl) (by decide) (fun c => absurd (by rw [Nat.add_comm]) c) (fun _ => ?_)
  refine hr_iconst (nI 1) X (tL_at tL_twins_1_ok 13 rfl) (by decide) ?_
  refine hr_goto 130 X (tL_at tL_twins_1_ok 14 rfl) (by decide) ?_
  refine hr_istore X (tL_at tL_twins_1_ok 16 rfl) (Nat.le_of_ble_eq_true rfl) ?_
  refine hl_iinc X (tL_at tL_twins_1_ok 17 rfl) rfl ?_
  refine hr_goto 76 X (tL_at tL_twins_1_ok 18 rfl) (by decide) ?_
  refine hr_sub (L2 := [some (.ref b), some (.ref nr), some (.ref cr), some (.int (nI 2)), some (.int (nI 1)), some (.int (nI (i + 1))), none]) ⟨rfl, rfl, rfl, rfl, rfl, rfl, trivial⟩ ?_
  exact kk _ _ (by rw [show 106 + 12 * (i + 1) = 106 + 12 * i + 6 + 6 by omega]; exact hS2) f2 hQ2
set_option maxHeartbeats 4000000 in
set_option maxRecDepth 100000 in
theorem w_T3 {C : hm_C} {nm : String} {Q : State → Prop} {cA : Nat → ClassId} {sg : mm_S} {N M : hm_M} {b nr cr : Nat} {z : mm_S} (X : hm_X C RL cL_twins 7 (some .boolean) nm r_L_twins cA) (hS : tw_S z (nI 5) (tw_s 1 1) (tw_w 5 5) 0 0 0 166) (f : ∀ a, a < 2 → z 5 a = sg 5 a) (hQ : ls_Q cA N b z M) (kk : ∀ (z9 : mm_S) (M9 : hm_M), tw_S z9 (nI 5) (tw_s 2 2) (tw_w 5 5) (nI 10) 0 0 166 → (∀ a, a < 2 → z9 5 a = sg 5 a) → ls_Q cA N b z9 M9 → hm_W C 147 1025 Q M9 240 [some (.ref b), some (.ref nr), some (.ref cr), some (.int (nI 2)), some (.int (nI 1)), some (.int (269509)), none] []) : hm_W C 131 929 Q M 138 [some (.ref b), some (.ref nr), some (.ref cr), some (.int (nI 2)), some (.int (nI 1)), none, none] [] := by
  refine hr_iload X (tL_at tL_twins_1_ok 19 rfl) rfl ?_
  refine hr_if_eq 233 X (tL_at tL_twins_1_ok 20 rfl) (by decide) (fun c => absurd c (by decide)) (fun _ => ?_)
  refine hr_aload_n X (tL_at tL_twins_1_ok 21 rfl) rfl (Or.inr ⟨_, rfl⟩) ?_
  refine hr_iconst (nI 4) X (tL_at tL_twins_1_ok 22 rfl) (by decide) ?_
  refine hr_iload_n X (tL_at tL_twins_1_ok 23 rfl) rfl ?_
  obtain ⟨t1, r1, g1⟩ := tw_hand hS (p := 4) (by decide) (by decide) (mk' := nI 10) tw_v5 (by decide)
  obtain ⟨z1, y1⟩ : ∃ zz, sp_handS z (sp_k (nI 4) (nI 2)) = zz := ⟨_, rfl⟩
  rw [y1] at g1
  have hS1 : tw_S z1 (nI 5) (tw_s 2 1) (tw_w 5 5) (nI 10) 0 0 166 := g1.eq (st' := (tw_s 2 1)) (w' := (tw_w 5 5)) (by decide) (by decide)
  have f1 : ∀ a, a < 2 → z1 5 a = sg 5 a := fun a ha => by rw [← y1, sp_handS_j (by decide) (by decide)]; exact f a ha
  refine hl_rs0 X kSL_hands (tL_at tL_twins_1_ok 24 rfl) (c_L_hands cA hS.1.1 hS.1.2.1 hQ (nI 4) (nI 2)) t1 rfl rfl rfl (Nat.le_of_ble_eq_true rfl) 134 947 ⟨⟨(Nat.le_of_ble_eq_true rfl), (Nat.le_of_ble_eq_true rfl)⟩, (Nat.le_of_ble_eq_true rfl), (Nat.le_of_ble_eq_true rfl)⟩ (Nat.le_of_ble_eq_true rfl) (Nat.le_of_ble_eq_true rfl) (fun M1 hQ1 => ?_)
  rw [r1]
  rw [y1] at hQ1
  refine hr_bipush (nI 10) X (tL_at tL_twins_1_ok 25 rfl) (by decide) ?_
  refine hr_icmp_ne 233 X (tL_at tL_twins_1_ok 26 rfl) (by decide) (fun c => absurd rfl c) (fun _ => ?_)
  obtain ⟨l5a, loa⟩ := tw_lists1 hS1
  refine hr_aload_n X (tL_at tL_twins_1_ok 27 rfl) rfl (Or.inr ⟨_, rfl⟩) ?_
  refine hr_iload_n X (tL_at tL_twins_1_ok 28 rfl) rfl ?_
  refine hl_rq0 X kSL_pairs (tL_at tL_twins_1_ok 29 rfl) (c_L_pairs cA hS1.1.1 hS1.1.2.1 hQ1 (nI 2)) (lf_w0 (sp_nat_isS hS1.1.1 hS1.1.s2)) rfl rfl rfl (Nat.le_of_ble_eq_true rfl) 135 953 ⟨⟨(Nat.le_of_ble_eq_true rfl), (Nat.le_of_ble_eq_true rfl)⟩, (Nat.le_of_ble_eq_true rfl), (Nat.le_of_ble_eq_true rfl)⟩ (Nat.le_of_ble_eq_true rfl) (Nat.le_of_ble_eq_true rfl) (fun M2 hQ2 => ?_)
  rw [tw_pairs rfl l5a loa, tw_pb0]
  refine hr_if_ne 233 X (tL_at tL_twins_1_ok 30 rfl) (by decide) (fun c => absurd rfl c) (fun _ => ?_)
  refine hr_aload_n X (tL_at tL_twins_1_ok 31 rfl) rfl (Or.inr ⟨_, rfl⟩) ?_
  refine hr_iconst (nI 5) X (tL_at tL_twins_1_ok 32 rfl) (by decide) ?_
  refine hr_iload_n X (tL_at tL_twins_1_ok 33 rfl) rfl ?_
  obtain ⟨t2, r2, g2⟩ := tw_hand hS1 (p := 5) (by decide) (by decide) (mk' := nI 10) tw_v5 (by decide)
  obtain ⟨z2, y2⟩ : ∃ zz, sp_handS z1 (sp_k (nI 5) (nI 2)) = zz := ⟨_, rfl⟩
  rw [y2] at g2
  have hS2 : tw_S z2 (nI 5) (tw_s 2 2) (tw_w 5 5) (nI 10) 0 0 166 := g2.eq (st' := (tw_s 2 2)) (w' := (tw_w 5 5)) (by decide) (by decide)
  have f2 : ∀ a, a < 2 → z2 5 a = sg 5 a := fun a ha => by rw [← y2, sp_handS_j (by decide) (by decide)]; exact f1 a ha
  refine hl_rs0 X kSL_hands (tL_at tL_twins_1_ok 34 rfl) (c_L_hands cA hS1.1.1 hS1.1.2.1 hQ2 (nI 5) (nI 2)) t2 rfl rfl rfl (Nat.le_of_ble_eq_true rfl) 138 971 ⟨⟨(Nat.le_of_ble_eq_true rfl), (Nat.le_of_ble_eq_true rfl)⟩, (Nat.le_of_ble_eq_true rfl), (Nat.le_of_ble_eq_true rfl)⟩ (Nat.le_of_ble_eq_true rfl) (Nat.le_of_ble_eq_true rfl) (fun M3 hQ3 => ?_)
  rw [r2]
  rw [y2] at hQ3
  refine hr_bipush (nI 10) X (tL_at tL_twins_1_ok 35 rfl) (by decide) ?_
  refine hr_icmp_ne 233 X (tL_at tL_twins_1_ok 36 rfl) (by decide) (fun c => absurd rfl c) (fun _ => ?_)
  obtain ⟨l4, l5, lo⟩ := tw_lists hS2 (by decide)
  refine hr_aload_n X (tL_at tL_twins_1_ok 37 rfl) rfl (Or.inr ⟨_, rfl⟩) ?_
  refine hr_iconst (nI 4) X (tL_at tL_twins_1_ok 38 rfl) (by decide) ?_
  refine hr_iload_n X (tL_at tL_twins_1_ok 39 rfl) rfl ?_
  refine hl_rq0 X kSL_prints (tL_at tL_twins_1_ok 40 rfl) (c_L_prints cA hS2.1.1 hS2.1.2.1 hQ3 (nI 4) (nI 2)) (lf_w0 (lf_bT hS2.1.1 hS2.1.s2 (p := 4) (by decide))) rfl rfl rfl (Nat.le_of_ble_eq_true rfl) 140 983 ⟨⟨(Nat.le_of_ble_eq_true rfl), (Nat.le_of_ble_eq_true rfl)⟩, (Nat.le_of_ble_eq_true rfl), (Nat.le_of_ble_eq_true rfl)⟩ (Nat.le_of_ble_eq_true rfl) (Nat.le_of_ble_eq_true rfl) (fun M4 hQ4 => ?_)
  rw [tw_k4, l4, tw_l5]
  refine hr_iconst (nI 3) X (tL_at tL_twins_1_ok 41 rfl) (by decide) ?_
  refine hr_icmp_ne 233 X (tL_at tL_twins_1_ok 42 rfl) (by decide) (fun c => absurd rfl c) (fun _ => ?_)
  refine hr_aload_n X (tL_at tL_twins_1_ok 43 rfl) rfl (Or.inr ⟨_, rfl⟩) ?_
  refine hr_iload_n X (tL_at tL_twins_1_ok 44 rfl) rfl ?_
  refine hr_iconst (nI 4) X (tL_at tL_twins_1_ok 45 rfl) (by decide) ?_
  refine hr_iconst (nI 5) X (tL_at tL_twins_1_ok 46 rfl) (by decide) ?_
  refine hl_rq0 X kSL_likeness (tL_at tL_twins_1_ok 47 rfl) (c_L_likeness cA hS2.1.1 hS2.1.2.1 hQ4 (nI 2) (nI 4) (nI 5)) (lf_w0 (lh_lkT hS2.1.1 hS2.1.s2 (p := 4) (q := 5) (by decide) (by decide))) rfl rfl rfl (Nat.le_of_ble_eq_true rfl) 143 1001 ⟨⟨(Nat.le_of_ble_eq_true rfl), (Nat.le_of_ble_eq_true rfl)⟩, (Nat.le_of_ble_eq_true rfl), (Nat.le_of_ble_eq_true rfl)⟩ (Nat.le_of_ble_eq_true rfl) (Nat.le_of_ble_eq_true rfl) (fun M5 hQ5 => ?_)
  rw [tw_like, l4, l5, tw_a5]
  refine hr_bipush (nI 100) X (tL_at tL_twins_1_ok 48 rfl) (by decide) ?_
  refine hr_icmp_ne 233 X (tL_at tL_twins_1_ok 49 rfl) (by decide) (fun c => absurd rfl c) (fun _ => ?_)
  refine hr_aload_n X (tL_at tL_twins_1_ok 50 rfl) rfl (Or.inr ⟨_, rfl⟩) ?_
  refine hr_iload_n X (tL_at tL_twins_1_ok 51 rfl) rfl ?_
  refine hl_rq0 X kSL_pairs (tL_at tL_twins_1_ok 52 rfl) (c_L_pairs cA hS2.1.1 hS2.1.2.1 hQ5 (nI 2)) (lf_w0 (sp_nat_isS hS2.1.1 hS2.1.s2)) rfl rfl rfl (Nat.le_of_ble_eq_true rfl) 144 1007 ⟨⟨(Nat.le_of_ble_eq_true rfl), (Nat.le_of_ble_eq_true rfl)⟩, (Nat.le_of_ble_eq_true rfl), (Nat.le_of_ble_eq_true rfl)⟩ (Nat.le_of_ble_eq_true rfl) (Nat.le_of_ble_eq_true rfl) (fun M6 hQ6 => ?_)
  rw [tw_pairs l4 l5 lo, tw_pb5]
  refine hr_iconst (nI 1) X (tL_at tL_twins_1_ok 53 rfl) (by decide) ?_
  refine hr_icmp_ne 233 X (tL_at tL_twins_1_ok 54 rfl) (by decide) (fun c => absurd rfl c) (fun _ => ?_)
  have hat := tw_at hS2.1 ((tw_pbE l4 l5).trans tw_pb5) lo
  refine hr_aload_n X (tL_at tL_twins_1_ok 55 rfl) rfl (Or.inr ⟨_, rfl⟩) ?_
  refine hr_iload_n X (tL_at tL_twins_1_ok 56 rfl) rfl ?_
  refine hr_iconst (nI 0) X (tL_at tL_twins_1_ok 57 rfl) (by decide) ?_
  refine hl_rq0 X kSL_pairAt (tL_at tL_twins_1_ok 58 rfl) (c_L_pairAt cA hS2.1.1 hS2.1.2.1 hQ6 (nI 2) (nI 0)) (lh_pat (j := 53) hat (by decide)) rfl rfl rfl (Nat.le_of_ble_eq_true rfl) 146 1019 ⟨⟨(Nat.le_of_ble_eq_true rfl), (Nat.le_of_ble_eq_true rfl)⟩, (Nat.le_of_ble_eq_true rfl), (Nat.le_of_ble_eq_true rfl)⟩ (Nat.le_of_ble_eq_true rfl) (Nat.le_of_ble_eq_true rfl) (fun M7 hQ7 => ?_)
  rw [hat]
  refine hr_sipush (nI 405) X (tL_at tL_twins_1_ok 59 rfl) (by decide) ?_
  refine hr_icmp_ne 233 X (tL_at tL_twins_2_ok 0 rfl) (by decide) (fun c => absurd rfl c) (fun _ => ?_)
  refine hr_aload_n X (tL_at tL_twins_2_ok 1 rfl) rfl (Or.inr ⟨_, rfl⟩) ?_
  refine hr_iload_n X (tL_at tL_twins_2_ok 2 rfl) rfl ?_
  refine hr_sipush (nI 5319) X (tL_at tL_twins_2_ok 3 rfl) (by decide) ?_
  refine hl_rq0 X kSL_with (tL_at tL_twins_2_ok 4 rfl) (c_L_with cA hS2.1.1 hS2.1.2.1 hQ7 (nI 2) (nI 5319)) (lf_w0 (sp_nat_isS hS2.1.1 hS2.1.s2)) rfl rfl rfl (Nat.le_of_ble_eq_true rfl) 147 1025 ⟨⟨(Nat.le_of_ble_eq_true rfl), (Nat.le_of_ble_eq_true rfl)⟩, (Nat.le_of_ble_eq_true rfl), (Nat.le_of_ble_eq_true rfl)⟩ (Nat.le_of_ble_eq_true rfl) (Nat.le_of_ble_eq_true rfl) (fun M8 hQ8 => ?_)
  rw [show nN (nI 2) = 2 from rfl, tw_wp lo (by rw [l4, tw_l5]; decide) (by rw [l5, tw_l5]; decide)]
  refine hr_bipush (nI 48) X (tL_at tL_twins_2_ok 5 rfl) (by decide) ?_
  refine hr_icmp_ne 233 X (tL_at tL_twins_2_ok 6 rfl) (by decide) (fun c => absurd rfl c) (fun _ => ?_)
  refine hr_iconst (nI 1) X (tL_at tL_twins_2_ok 7 rfl) (by decide) ?_
  refine hr_goto 234 X (tL_at tL_twins_2_ok 8 rfl) (by decide) ?_
  refine hr_istore X (tL_at tL_twins_2_ok 10 rfl) (Nat.le_of_ble_eq_true rfl) ?_
  refine hr_ldc 269509 X (tL_at tL_twins_2_ok 11 rfl) kKL_230 ?_
  refine hr_istore X (tL_at tL_twins_2_ok 12 rfl) (Nat.le_of_ble_eq_true rfl) ?_
  refine hr_sub (L2 := [some (.ref b), some (.ref nr), some (.ref cr), some (.int (nI 2)), some (.int (nI 1)), some (.int (269509)), none]) ⟨rfl, rfl, rfl, rfl, rfl, rfl, trivial⟩ ?_
  exact kk _ _ hS2 f2 hQ8
set_option maxHeartbeats 4000000 in
set_option maxRecDepth 100000 in
theorem w_T4 {C : hm_C} {nm : String} {Q : State → Prop} {cA : Nat → ClassId} {sg : mm_S} {N M : hm_M} {b nr cr : Nat} {z : mm_S} (X : hm_X C RL cL_twins 7 (some .boolean) nm r_L_twins cA) (hS : tw_S z (nI 5) (tw_s 2 2) (tw_w 5 5) (nI 10) 0 0 166) (f : ∀ a, a < 2 → z 5 a = sg 5 a) (hQ : ls_Q cA N b z M) (kk : ∀ (z9 : mm_S) (M9 : hm_M), tw_S z9 269509 (tw_s 2 2) (tw_w 5 5) (nI 10) 0 0 172 → (∀ a, a < 2 → z9 5 a = sg 5 a) → ls_Q cA N b z9 M9 → hm_W C 159 1097 Q M9 295 [some (.ref b), some (.ref nr), some (.ref cr), some (.int (nI 2)), some (.int (nI 1)), some (.int (269509)), none] []) : hm_W C 147 1025 Q M 240 [some (.ref b), some (.ref nr), some (.ref cr), some (.int (nI 2)), some (.int (nI 1)), some (.int (269509)), none] [] := by
  refine hr_iload X (tL_at tL_twins_2_ok 13 rfl) rfl ?_
  refine hr_if_eq 392 X (tL_at tL_twins_2_ok 14 rfl) (by decide) (fun c => absurd c (by decide)) (fun _ => ?_)
  refine hr_aload_n X (tL_at tL_twins_2_ok 15 rfl) rfl (Or.inr ⟨_, rfl⟩) ?_
  refine hr_iload_n X (tL_at tL_twins_2_ok 16 rfl) rfl ?_
  refine hr_iconst (nI 1) X (tL_at tL_twins_2_ok 17 rfl) (by decide) ?_
  refine hr_iconst (nI 4) X (tL_at tL_twins_2_ok 18 rfl) (by decide) ?_
  refine hr_iload X (tL_at tL_twins_2_ok 19 rfl) rfl ?_
  obtain ⟨t1, r1, g1⟩ := tw_mend hS (by decide) (by decide) tw_r4 (N := 0) (mk' := (nI 10)) (td' := 0) (by rw [tw_v4, tw_v5, if_pos rfl]) (by rw [tw_v4, tw_v5, if_pos rfl]) (by rw [tw_v4, tw_v5, if_pos rfl])
  obtain ⟨z1, y1⟩ : ∃ zz, sp_mend z (nN (nI 2)) (sp_menE z (nN (nI 2)) (nN (nI 1)) (nN (nI 4)) 2) 269509 0 = zz := ⟨_, rfl⟩
  rw [y1] at g1
  have hS1 : tw_S z1 269509 (tw_s 2 2) (tw_w 5 5) (nI 10) 0 0 172 := g1.eq (st' := (tw_s 2 2)) (w' := (tw_w 5 5)) (by decide) (by decide)
  have f1 : ∀ a, a < 2 → z1 5 a = sg 5 a := fun a ha => by rw [← y1, la_mj (by decide)]; exact f a ha
  refine hl_rs0 X kSL_mendsWords (tL_at tL_twins_2_ok 20 rfl) (c_L_mendsWords cA hS.1.1 hS.1.2.1 hQ (nI 2) (nI 1) (nI 4) 269509) t1 rfl rfl rfl (Nat.le_of_ble_eq_true rfl) 152 1055 ⟨⟨(Nat.le_of_ble_eq_true rfl), (Nat.le_of_ble_eq_true rfl)⟩, (Nat.le_of_ble_eq_true rfl), (Nat.le_of_ble_eq_true rfl)⟩ (Nat.le_of_ble_eq_true rfl) (Nat.le_of_ble_eq_true rfl) (fun M1 hQ1 => ?_)
  rw [r1]
  rw [y1] at hQ1
  refine hr_if_ne 392 X (tL_at tL_twins_2_ok 21 rfl) (by decide) (fun c => absurd rfl c) (fun _ => ?_)
  obtain ⟨m4, m5, mo⟩ := tw_lists hS1 (by decide)
  refine hr_aload_n X (tL_at tL_twins_2_ok 22 rfl) rfl (Or.inr ⟨_, rfl⟩) ?_
  refine hr_iconst (nI 4) X (tL_at tL_twins_2_ok 23 rfl) (by decide) ?_
  refine hr_iload_n X (tL_at tL_twins_2_ok 24 rfl) rfl ?_
  refine hl_rq0 X kSL_prints (tL_at tL_twins_2_ok 25 rfl) (c_L_prints cA hS1.1.1 hS1.1.2.1 hQ1 (nI 4) (nI 2)) (lf_w0 (lf_bT hS1.1.1 hS1.1.s2 (p := 4) (by decide))) rfl rfl rfl (Nat.le_of_ble_eq_true rfl) 154 1067 ⟨⟨(Nat.le_of_ble_eq_true rfl), (Nat.le_of_ble_eq_true rfl)⟩, (Nat.le_of_ble_eq_true rfl), (Nat.le_of_ble_eq_true rfl)⟩ (Nat.le_of_ble_eq_true rfl) (Nat.le_of_ble_eq_true rfl) (fun M2 hQ2 => ?_)
  rw [tw_k4, m4, tw_l4]
  refine hr_iconst (nI 1) X (tL_at tL_twins_2_ok 26 rfl) (by decide) ?_
  refine hr_icmp_ne 392 X (tL_at tL_twins_2_ok 27 rfl) (by decide) (fun c => absurd rfl c) (fun _ => ?_)
  refine hr_aload_n X (tL_at tL_twins_2_ok 28 rfl) rfl (Or.inr ⟨_, rfl⟩) ?_
  refine hr_iload_n X (tL_at tL_twins_2_ok 29 rfl) rfl ?_
  refine hr_iconst (nI 4) X (tL_at tL_twins_2_ok 30 rfl) (by decide) ?_
  refine hr_iconst (nI 5) X (tL_at tL_twins_2_ok 31 rfl) (by decide) ?_
  refine hl_rq0 X kSL_likeness (tL_at tL_twins_2_ok 32 rfl) (c_L_likeness cA hS1.1.1 hS1.1.2.1 hQ2 (nI 2) (nI 4) (nI 5)) (lf_w0 (lh_lkT hS1.1.1 hS1.1.s2 (p := 4) (q := 5) (by decide) (by decide))) rfl rfl rfl (Nat.le_of_ble_eq_true rfl) 157 1085 ⟨⟨(Nat.le_of_ble_eq_true rfl), (Nat.le_of_ble_eq_true rfl)⟩, (Nat.le_of_ble_eq_true rfl), (Nat.le_of_ble_eq_true rfl)⟩ (Nat.le_of_ble_eq_true rfl) (Nat.le_of_ble_eq_true rfl) (fun M3 hQ3 => ?_)
  rw [tw_like, m4, m5, tw_a4]
  refine hr_bipush (nI 100) X (tL_at tL_twins_2_ok 33 rfl) (by decide) ?_
  refine hr_icmp_ne 392 X (tL_at tL_twins_2_ok 34 rfl) (by decide) (fun c => absurd rfl c) (fun _ => ?_)
  refine hr_aload_n X (tL_at tL_twins_2_ok 35 rfl) rfl (Or.inr ⟨_, rfl⟩) ?_
  refine hr_iload_n X (tL_at tL_twins_2_ok 36 rfl) rfl ?_
  refine hl_rq0 X kSL_pairs (tL_at tL_twins_2_ok 37 rfl) (c_L_pairs cA hS1.1.1 hS1.1.2.1 hQ3 (nI 2)) (lf_w0 (sp_nat_isS hS1.1.1 hS1.1.s2)) rfl rfl rfl (Nat.le_of_ble_eq_true rfl) 158 1091 ⟨⟨(Nat.le_of_ble_eq_true rfl), (Nat.le_of_ble_eq_true rfl)⟩, (Nat.le_of_ble_eq_true rfl), (Nat.le_of_ble_eq_true rfl)⟩ (Nat.le_of_ble_eq_true rfl) (Nat.le_of_ble_eq_true rfl) (fun M4 hQ4 => ?_)
  rw [tw_pairs m4 m5 mo, tw_pb4]
  refine hr_if_ne 392 X (tL_at tL_twins_2_ok 38 rfl) (by decide) (fun c => absurd rfl c) (fun _ => ?_)
  refine hr_aload_n X (tL_at tL_twins_2_ok 39 rfl) rfl (Or.inr ⟨_, rfl⟩) ?_
  refine hr_iload_n X (tL_at tL_twins_2_ok 40 rfl) rfl ?_
  refine hl_rq0 X kSL_anew (tL_at tL_twins_2_ok 41 rfl) (c_L_anew cA hS1.1.1 hS1.1.2.1 hQ4 (nI 2)) (lf_w0 (sp_nat_isS hS1.1.1 hS1.1.s2)) rfl rfl rfl (Nat.le_of_ble_eq_true rfl) 159 1097 ⟨⟨(Nat.le_of_ble_eq_true rfl), (Nat.le_of_ble_eq_true rfl)⟩, (Nat.le_of_ble_eq_true rfl), (Nat.le_of_ble_eq_true rfl)⟩ (Nat.le_of_ble_eq_true rfl) (Nat.le_of_ble_eq_true rfl) (fun M5 hQ5 => ?_)
  rw [tw_pairs m4 m5 mo, tw_pb4]
  refine hr_if_ne 392 X (tL_at tL_twins_2_ok 42 rfl) (by decide) (fun c => absurd rfl c) (fun _ => ?_)
  exact kk _ _ hS1 f1 hQ5
set_option maxHeartbeats 4000000 in
set_option maxRecDepth 100000 in
theorem w_T5 {C : hm_C} {nm : String} {Q : State → Prop} {cA : Nat → ClassId} {sg : mm_S} {N M : hm_M} {b nr cr : Nat} {z : mm_S} (X : hm_X C RL cL_twins 7 (some .boolean) nm r_L_twins cA) (hS : tw_S z 269509 (tw_s 2 2) (tw_w 5 5) (nI 10) 0 0 172) (f : ∀ a, a < 2 → z 5 a = sg 5 a) (hQ : ls_Q cA N b z M) (kk : ∀ (z9 : mm_S) (M9 : hm_M), tw_S z9 (nI 30) (tw_s 2 2) (tw_w 5 5) (nI 0) 0 1 178 → (∀ a, a < 2 → z9 5 a = sg 5 a) → ls_Q cA N b z9 M9 → hm_W C 174 1187 Q M9 346 [some (.ref b), some (.ref nr), some (.ref cr), some (.int (nI 2)), some (.int (nI 1)), some (.int (269509)), none] []) : hm_W C 159 1097 Q M 295 [some (.ref b), some (.ref nr), some (.ref cr), some (.int (nI 2)), some (.int (nI 1)), some (.int (269509)), none] [] := by
  refine hr_aload_n X (tL_at tL_twins_2_ok 43 rfl) rfl (Or.inr ⟨_, rfl⟩) ?_
  refine hr_iload_n X (tL_at tL_twins_2_ok 44 rfl) rfl ?_
  refine hr_iconst (nI 1) X (tL_at tL_twins_2_ok 45 rfl) (by decide) ?_
  refine hr_iconst (nI 4) X (tL_at tL_twins_2_ok 46 rfl) (by decide) ?_
  refine hr_bipush (nI 30) X (tL_at tL_twins_2_ok 47 rfl) (by decide) ?_
  obtain ⟨t1, r1, g1⟩ := tw_mend hS (by decide) (by decide) tw_r30 (N := (nI 2)) (mk' := (nI 0)) (td' := 0) (by rw [tw_v30, tw_v4, if_neg (by decide)]; decide) (by rw [tw_v30, tw_v4, if_neg (by decide)]; rfl) (by rw [tw_v30, tw_v4, if_neg (by decide)]; rfl)
  obtain ⟨z1, y1⟩ : ∃ zz, sp_mend z (nN (nI 2)) (sp_menE z (nN (nI 2)) (nN (nI 1)) (nN (nI 4)) 2) (nI 30) 0 = zz := ⟨_, rfl⟩
  rw [y1] at g1
  have hS1 : tw_S z1 (nI 30) (tw_s 2 2) (tw_w 5 5) (nI 0) 0 0 178 := g1.eq (st' := (tw_s 2 2)) (w' := (tw_w 5 5)) (by decide) (by decide)
  have f1 : ∀ a, a < 2 → z1 5 a = sg 5 a := fun a ha => by rw [← y1, la_mj (by decide)]; exact f a ha
  refine hl_rs0 X kSL_mendsWords (tL_at tL_twins_2_ok 48 rfl) (c_L_mendsWords cA hS.1.1 hS.1.2.1 hQ (nI 2) (nI 1) (nI 4) (nI 30)) t1 rfl rfl rfl (Nat.le_of_ble_eq_true rfl) 164 1127 ⟨⟨(Nat.le_of_ble_eq_true rfl), (Nat.le_of_ble_eq_true rfl)⟩, (Nat.le_of_ble_eq_true rfl), (Nat.le_of_ble_eq_true rfl)⟩ (Nat.le_of_ble_eq_true rfl) (Nat.le_of_ble_eq_true rfl) (fun M1 hQ1 => ?_)
  rw [r1]
  rw [y1] at hQ1
  refine hr_iconst (nI 2) X (tL_at tL_twins_2_ok 49 rfl) (by decide) ?_
  refine hr_icmp_ne 392 X (tL_at tL_twins_2_ok 50 rfl) (by decide) (fun c => absurd rfl c) (fun _ => ?_)
  refine hr_aload_n X (tL_at tL_twins_2_ok 51 rfl) rfl (Or.inr ⟨_, rfl⟩) ?_
  refine hr_iconst (nI 5) X (tL_at tL_twins_2_ok 52 rfl) (by decide) ?_
  refine hr_iload_n X (tL_at tL_twins_2_ok 53 rfl) rfl ?_
  refine hl_rq0 X kSL_mark (tL_at tL_twins_2_ok 54 rfl) (c_L_mark cA hS1.1.1 hS1.1.2.1 hQ1 (nI 5) (nI 2)) (lf_w0 (lf_bT hS1.1.1 hS1.1.s2 (p := 5) (by decide))) rfl rfl rfl (Nat.le_of_ble_eq_true rfl) 166 1139 ⟨⟨(Nat.le_of_ble_eq_true rfl), (Nat.le_of_ble_eq_true rfl)⟩, (Nat.le_of_ble_eq_true rfl), (Nat.le_of_ble_eq_true rfl)⟩ (Nat.le_of_ble_eq_true rfl) (Nat.le_of_ble_eq_true rfl) (fun M2 hQ2 => ?_)
  rw [(show sp_rMark z1 (sp_k (nI 5) (nI 2)) = nI 0 by rw [tw_k5]; exact (if_pos ((hS1.2.2.2 5 (by decide)).1)).trans ((hS1.2.2.2 5 (by decide)).2.1 (by decide)).1)]
  refine hr_if_ne 392 X (tL_at tL_twins_2_ok 55 rfl) (by decide) (fun c => absurd rfl c) (fun _ => ?_)
  refine hr_aload_n X (tL_at tL_twins_2_ok 56 rfl) rfl (Or.inr ⟨_, rfl⟩) ?_
  refine hr_iconst (nI 5) X (tL_at tL_twins_2_ok 57 rfl) (by decide) ?_
  refine hr_iload_n X (tL_at tL_twins_2_ok 58 rfl) rfl ?_
  refine hl_rq0 X kSL_prints (tL_at tL_twins_2_ok 59 rfl) (c_L_prints cA hS1.1.1 hS1.1.2.1 hQ2 (nI 5) (nI 2)) (lf_w0 (lf_bT hS1.1.1 hS1.1.s2 (p := 5) (by decide))) rfl rfl rfl (Nat.le_of_ble_eq_true rfl) 168 1151 ⟨⟨(Nat.le_of_ble_eq_true rfl), (Nat.le_of_ble_eq_true rfl)⟩, (Nat.le_of_ble_eq_true rfl), (Nat.le_of_ble_eq_true rfl)⟩ (Nat.le_of_ble_eq_true rfl) (Nat.le_of_ble_eq_true rfl) (fun M3 hQ3 => ?_)
  rw [tw_k5, show sp_prs z1 29 = [] from tw_lists0 hS1 (by decide) (p := 5) (by decide)]
  refine hr_if_ne 392 X (tL_at tL_twins_3_ok 0 rfl) (by decide) (fun c => absurd rfl c) (fun _ => ?_)
  refine hr_aload_n X (tL_at tL_twins_3_ok 1 rfl) rfl (Or.inr ⟨_, rfl⟩) ?_
  refine hr_iload_n X (tL_at tL_twins_3_ok 2 rfl) rfl ?_
  refine hr_iconst (nI 4) X (tL_at tL_twins_3_ok 3 rfl) (by decide) ?_
  refine hr_iconst (nI 5) X (tL_at tL_twins_3_ok 4 rfl) (by decide) ?_
  refine hl_rq0 X kSL_likeness (tL_at tL_twins_3_ok 5 rfl) (c_L_likeness cA hS1.1.1 hS1.1.2.1 hQ3 (nI 2) (nI 4) (nI 5)) (lf_w0 (lh_lkT hS1.1.1 hS1.1.s2 (p := 4) (q := 5) (by decide) (by decide))) rfl rfl rfl (Nat.le_of_ble_eq_true rfl) 171 1169 ⟨⟨(Nat.le_of_ble_eq_true rfl), (Nat.le_of_ble_eq_true rfl)⟩, (Nat.le_of_ble_eq_true rfl), (Nat.le_of_ble_eq_true rfl)⟩ (Nat.le_of_ble_eq_true rfl) (Nat.le_of_ble_eq_true rfl) (fun M4 hQ4 => ?_)
  rw [tw_like, show sp_prs z1 28 = [] from tw_lists0 hS1 (by decide) (p := 4) (by decide), show sp_prs z1 29 = [] from tw_lists0 hS1 (by decide) (p := 5) (by decide), tw_a0]
  refine hr_if_ne 392 X (tL_at tL_twins_3_ok 6 rfl) (by decide) (fun c => absurd rfl c) (fun _ => ?_)
  refine hr_aload_n X (tL_at tL_twins_3_ok 7 rfl) rfl (Or.inr ⟨_, rfl⟩) ?_
  refine hr_iconst (nI 1) X (tL_at tL_twins_3_ok 8 rfl) (by decide) ?_
  refine hr_iload_n X (tL_at tL_twins_3_ok 9 rfl) rfl ?_
  obtain ⟨t2, r2, g2⟩ := tw_close hS1 (by decide) (by decide) (by decide)
  obtain ⟨z2, y2⟩ : ∃ zz, sp_clS (mm_up z1 11 (4 * nN (nI 2) + nN (nI 1)) 1) (12 * nN (nI 2) + 3 * nN (nI 1)) 3 = zz := ⟨_, rfl⟩
  rw [y2] at g2
  have hS2 : tw_S z2 (nI 30) (tw_s 2 2) (tw_w 5 5) (nI 0) 0 1 178 := g2.eq (st' := (tw_s 2 2)) (w' := (tw_w 5 5)) (by decide) (by decide)
  have f2 : ∀ a, a < 2 → z2 5 a = sg 5 a := fun a ha => by rw [← y2, tw_clSj (by decide), mm_up_j (by decide)]; exact f1 a ha
  refine hl_rs0 X kSL_closes (tL_at tL_twins_3_ok 10 rfl) (c_L_closes cA hS1.1.1 hS1.1.2.1 hQ4 (nI 1) (nI 2)) t2 rfl rfl rfl (Nat.le_of_ble_eq_true rfl) 174 1187 ⟨⟨(Nat.le_of_ble_eq_true rfl), (Nat.le_of_ble_eq_true rfl)⟩, (Nat.le_of_ble_eq_true rfl), (Nat.le_of_ble_eq_true rfl)⟩ (Nat.le_of_ble_eq_true rfl) (Nat.le_of_ble_eq_true rfl) (fun M5 hQ5 => ?_)
  rw [r2]
  rw [y2] at hQ5
  refine hr_iconst (nI 2) X (tL_at tL_twins_3_ok 11 rfl) (by decide) ?_
  refine hr_icmp_ne 392 X (tL_at tL_twins_3_ok 12 rfl) (by decide) (fun c => absurd rfl c) (fun _ => ?_)
  exact kk _ _ hS2 f2 hQ5
set_option maxHeartbeats 4000000 in
set_option maxRecDepth 100000 in
theorem w_T6 {C : hm_C} {nm : String} {Q : State → Prop} {cA : Nat → ClassId} {sg : mm_S} {N M : hm_M} {b nr cr : Nat} {z : mm_S} (X : hm_X C RL cL_twins 7 (some .boolean) nm r_L_twins cA) (hS : tw_S z (nI 30) (tw_s 2 2) (tw_w 5 5) (nI 0) 0 1 178) (f : ∀ a, a < 2 → z 5 a = sg 5 a) (hQ : ls_Q cA N b z M) (kk : ∀ (z9 : mm_S) (M9 : hm_M), tw_S z9 (nI 5) (tw_s 2 2) (tw_w 5 5) (nI 0) (nI 1) 1 184 → (∀ a, a < 2 → z9 5 a = sg 5 a) → ls_Q cA N b z9 M9 → hm_W C 185 1253 Q M9 393 [some (.ref b), some (.ref nr), some (.ref cr), some (.int (nI 2)), some (.int (nI 1)), some (.int (269509)), none] [.int (nI 1)]) : hm_W C 174 1187 Q M 346 [some (.ref b), some (.ref nr), some (.ref cr), some (.int (nI 2)), some (.int (nI 1)), some (.int (269509)), none] [] := by
  refine hr_aload_n X (tL_at tL_twins_3_ok 13 rfl) rfl (Or.inr ⟨_, rfl⟩) ?_
  refine hr_iload_n X (tL_at tL_twins_3_ok 14 rfl) rfl ?_
  refine hr_iconst (nI 1) X (tL_at tL_twins_3_ok 15 rfl) (by decide) ?_
  refine hr_iconst (nI 4) X (tL_at tL_twins_3_ok 16 rfl) (by decide) ?_
  refine hr_iconst (nI 5) X (tL_at tL_twins_3_ok 17 rfl) (by decide) ?_
  obtain ⟨t1, r1, g1⟩ := tw_mend hS (by decide) (by decide) tw_r5 (N := (nI 2)) (mk' := (nI 0)) (td' := (nI 1)) (by rw [tw_v5, tw_v30, if_neg (by decide)]; decide) (by rw [tw_v5, tw_v30, if_neg (by decide)]; rfl) (by rw [tw_v5, tw_v30, if_neg (by decide)]; rfl)
  obtain ⟨z1, y1⟩ : ∃ zz, sp_mend z (nN (nI 2)) (sp_menE z (nN (nI 2)) (nN (nI 1)) (nN (nI 4)) 2) (nI 5) 0 = zz := ⟨_, rfl⟩
  rw [y1] at g1
  have hS1 : tw_S z1 (nI 5) (tw_s 2 2) (tw_w 5 5) (nI 0) (nI 1) 1 184 := g1.eq (st' := (tw_s 2 2)) (w' := (tw_w 5 5)) (by decide) (by decide)
  have f1 : ∀ a, a < 2 → z1 5 a = sg 5 a := fun a ha => by rw [← y1, la_mj (by decide)]; exact f a ha
  refine hl_rs0 X kSL_mendsWords (tL_at tL_twins_3_ok 18 rfl) (c_L_mendsWords cA hS.1.1 hS.1.2.1 hQ (nI 2) (nI 1) (nI 4) (nI 5)) t1 rfl rfl rfl (Nat.le_of_ble_eq_true rfl) 179 1217 ⟨⟨(Nat.le_of_ble_eq_true rfl), (Nat.le_of_ble_eq_true rfl)⟩, (Nat.le_of_ble_eq_true rfl), (Nat.le_of_ble_eq_true rfl)⟩ (Nat.le_of_ble_eq_true rfl) (Nat.le_of_ble_eq_true rfl) (fun M1 hQ1 => ?_)
  rw [r1]
  rw [y1] at hQ1
  refine hr_iconst (nI 2) X (tL_at tL_twins_3_ok 19 rfl) (by decide) ?_
  refine hr_icmp_ne 392 X (tL_at tL_twins_3_ok 20 rfl) (by decide) (fun c => absurd rfl c) (fun _ => ?_)
  refine hr_aload_n X (tL_at tL_twins_3_ok 21 rfl) rfl (Or.inr ⟨_, rfl⟩) ?_
  refine hr_iconst (nI 4) X (tL_at tL_twins_3_ok 22 rfl) (by decide) ?_
  refine hr_iload_n X (tL_at tL_twins_3_ok 23 rfl) rfl ?_
  refine hl_rq0 X kSL_told (tL_at tL_twins_3_ok 24 rfl) (c_L_told cA hS1.1.1 hS1.1.2.1 hQ1 (nI 4) (nI 2)) (lf_w0 (lf_bT hS1.1.1 hS1.1.s2 (p := 4) (by decide))) rfl rfl rfl (Nat.le_of_ble_eq_true rfl) 181 1229 ⟨⟨(Nat.le_of_ble_eq_true rfl), (Nat.le_of_ble_eq_true rfl)⟩, (Nat.le_of_ble_eq_true rfl), (Nat.le_of_ble_eq_true rfl)⟩ (Nat.le_of_ble_eq_true rfl) (Nat.le_of_ble_eq_true rfl) (fun M2 hQ2 => ?_)
  rw [tw_k4, show z1 16 28 = nI 1 from ((hS1.2.2.2 4 (by decide)).2.1 (by decide)).2]
  refine hr_iconst (nI 1) X (tL_at tL_twins_3_ok 25 rfl) (by decide) ?_
  refine hr_icmp_ne 392 X (tL_at tL_twins_3_ok 26 rfl) (by decide) (fun c => absurd rfl c) (fun _ => ?_)
  refine hr_aload_n X (tL_at tL_twins_3_ok 27 rfl) rfl (Or.inr ⟨_, rfl⟩) ?_
  refine hr_iconst (nI 4) X (tL_at tL_twins_3_ok 28 rfl) (by decide) ?_
  refine hr_iload_n X (tL_at tL_twins_3_ok 29 rfl) rfl ?_
  refine hl_rq0 X kSL_mark (tL_at tL_twins_3_ok 30 rfl) (c_L_mark cA hS1.1.1 hS1.1.2.1 hQ2 (nI 4) (nI 2)) (lf_w0 (lf_bT hS1.1.1 hS1.1.s2 (p := 4) (by decide))) rfl rfl rfl (Nat.le_of_ble_eq_true rfl) 183 1241 ⟨⟨(Nat.le_of_ble_eq_true rfl), (Nat.le_of_ble_eq_true rfl)⟩, (Nat.le_of_ble_eq_true rfl), (Nat.le_of_ble_eq_true rfl)⟩ (Nat.le_of_ble_eq_true rfl) (Nat.le_of_ble_eq_true rfl) (fun M3 hQ3 => ?_)
  rw [(show sp_rMark z1 (sp_k (nI 4) (nI 2)) = nI 0 by rw [tw_k4]; exact (if_pos ((hS1.2.2.2 4 (by decide)).1)).trans ((hS1.2.2.2 4 (by decide)).2.1 (by decide)).1)]
  refine hr_if_ne 392 X (tL_at tL_twins_3_ok 31 rfl) (by decide) (fun c => absurd rfl c) (fun _ => ?_)
  refine hr_aload_n X (tL_at tL_twins_3_ok 32 rfl) rfl (Or.inr ⟨_, rfl⟩) ?_
  refine hr_iconst (nI 4) X (tL_at tL_twins_3_ok 33 rfl) (by decide) ?_
  refine hr_iload_n X (tL_at tL_twins_3_ok 34 rfl) rfl ?_
  refine hl_rq0 X kSL_due (tL_at tL_twins_3_ok 35 rfl) (c_L_due cA hS1.1.1 hS1.1.2.1 hQ3 (nI 4) (nI 2)) (lf_w0 (lf_bT hS1.1.1 hS1.1.s2 (p := 4) (by decide))) rfl rfl rfl (Nat.le_of_ble_eq_true rfl) 185 1253 ⟨⟨(Nat.le_of_ble_eq_true rfl), (Nat.le_of_ble_eq_true rfl)⟩, (Nat.le_of_ble_eq_true rfl), (Nat.le_of_ble_eq_true rfl)⟩ (Nat.le_of_ble_eq_true rfl) (Nat.le_of_ble_eq_true rfl) (fun M4 hQ4 => ?_)
  rw [tw_k4, show sp_rDue z1 28 = nI 10 from (if_neg (by rw [show z1 13 28 = 2 from (hS1.2.2.2 4 (by decide)).1]; decide)).trans ((tw_due hS1.1 (p := 4) (by decide) ((hS1.2.2.2 4 (by decide)).2.2 (by decide))).trans tw_v5)]
  refine hr_bipush (nI 10) X (tL_at tL_twins_3_ok 36 rfl) (by decide) ?_
  refine hr_icmp_ne 392 X (tL_at tL_twins_3_ok 37 rfl) (by decide) (fun c => absurd rfl c) (fun _ => ?_)
  refine hr_iconst (nI 1) X (tL_at tL_twins_3_ok 38 rfl) (by decide) ?_
  refine hr_goto 393 X (tL_at tL_twins_3_ok 39 rfl) (by decide) ?_
  exact kk _ _ hS1 f1 hQ4
set_option maxHeartbeats 4000000 in
set_option maxRecDepth 100000 in
theorem c_L_twins (cA : Nat → ClassId) {sg : mm_S} {N M : hm_M} {b nr cr : Nat} (hI : sp_I sg) (hJ : sp_J sg) (hK : sp_K sg) (hQ : ls_Q cA N b sg M) : hm_Met cA yL_twins cL_twins 7 (some .boolean) r_L_twins [.ref b, .ref nr, .ref cr] M (fun v M' => v = some (.int (nI 1)) ∧ ∃ s9 : mm_S, sp_I s9 ∧ sp_J s9 ∧ sp_n s9 = 3 ∧ (∀ a, a < 2 → s9 5 a = sg 5 a) ∧ ls_Q cA N b s9 M') := by
  refine hm_met 4 (by decide +kernel) (fun w h => by simp only [List.mem_cons, List.not_mem_nil, or_false] at h; rcases h with rfl | rfl | rfl <;> rfl) rfl (fun C X => ?_)
  show hm_W C 0 0 _ M 0 [some (.ref b), some (.ref nr), some (.ref cr), none, none, none, none] []
  refine w_T1 X hI hJ hK hQ (fun z1 M1 hS1 f1 hQ1 => ?_)
  refine hl_for (L := fun i => [some (.ref b), some (.ref nr), some (.ref cr), some (.int (nI 2)), some (.int (nI 1)), some (.int (nI i)), none]) (I := fun i M9 => ∃ z : mm_S, tw_S z (nI 5) (tw_s 1 1) (tw_w (i) (i)) 0 0 0 (106 + 12 * i) ∧ (∀ a, a < 2 → z 5 a = sg 5 a) ∧ ls_Q cA N b z M9) 5 16 96 51 449 (fun i M9 kr9 sr9 hi h9 hk9 hs9 kk9 => ?_) (fun M9 h9 => ?_) ⟨z1, hS1, f1, hQ1⟩
  · obtain ⟨z, hS, f, hQ9⟩ := h9
    exact w_T2 X (by omega) (by omega) hi hS f hQ9 (fun z9 M8 hS9 f9 hQ8 => kk9 M8 ⟨z9, hS9, f9, hQ8⟩)
  obtain ⟨z, hS, f, hQ9⟩ := h9
  refine hr_widen (k2 := 131) (n2 := 929) (by omega) (by omega) ?_
  refine hr_iload X (tL_at tL_twins_0_ok 44 rfl) rfl ?_
  refine hr_iconst (nI 5) X (tL_at tL_twins_0_ok 45 rfl) (by decide) ?_
  refine hr_icmp_ge 138 X (tL_at tL_twins_0_ok 46 rfl) (by decide) (fun _ => ?_) (fun c => absurd (Int32.le_refl _) c)
  refine hr_sub (L2 := [some (.ref b), some (.ref nr), some (.ref cr), some (.int (nI 2)), some (.int (nI 1)), none, none]) ⟨rfl, rfl, rfl, rfl, rfl, trivial⟩ ?_
  refine w_T3 X hS f hQ9 (fun z3 M3 hS3 f3 hQ3 => ?_)
  refine w_T4 X hS3 f3 hQ3 (fun z4 M4 hS4 f4 hQ4 => ?_)
  refine w_T5 X hS4 f4 hQ4 (fun z5 M5 hS5 f5 hQ5 => ?_)
  refine w_T6 X hS5 f5 hQ5 (fun z6 M6 hS6 f6 hQ6 => ?_)
  exact hr_zret X (tL_at tL_twins_3_ok 41 rfl) (by rfl) (Nat.le_of_ble_eq_true rfl) (Nat.le_of_ble_eq_true rfl) ⟨rfl, z6, hS6.1.1, hS6.1.2.1, hS6.1.2.2.1, f6, hQ6⟩
