/-! setNumber, setChoice, setWords, drop -/
set_option maxHeartbeats 4000000 in
set_option maxRecDepth 100000 in
theorem c_X5_setNumber (cA : Nat → ClassId) {sg ta : mm_S} {ad : Nat → Nat → Nat} {M0 M : hm_M} (hR : cr_R cA sg ta ad M0 M) (hI : sp_I sg) (hok : cr_ok sg ta) (g s t points value slack : Int32) : hm_XMet cA yX5_setNumber cX5_setNumber 8 (some .int) r_X5_setNumber [.ref (ad 0 0), .int g, .int s, .int t, .int points, .int value, .int slack] M (fun v' M' => sp_thSet sg g s t (sp_areN points value slack) (2) = 0 ∧ v' = some (.int (sg 5 (nN s))) ∧ ∃ (ta' : mm_S) (ad' : Nat → Nat → Nat), cr_R cA (sp_rev sg (nN g) (nN s) (nN t) 0 points value slack) ta' ad' M0 M' ∧ cr_ok (sp_rev sg (nN g) (nN s) (nN t) 0 points value slack) ta' ∧ ad' 0 0 = ad 0 0) (fun E M' => ((sp_thSet sg g s t (sp_areN points value slack) (2) = 1 ∧ E = "java/lang/IndexOutOfBoundsException") ∨ (sp_thSet sg g s t (sp_areN points value slack) (2) = 2 ∧ E = "java/lang/IllegalArgumentException") ∨ (sp_thSet sg g s t (sp_areN points value slack) (2) = 3 ∧ E = "java/lang/IllegalStateException")) ∧ cr_R cA sg ta ad M0 M') := by
  refine hm_xmet 1 (by decide +kernel) (fun w h => by simp only [List.mem_cons, List.not_mem_nil, or_false] at h; rcases h with rfl | rfl | rfl | rfl | rfl | rfl | rfl <;> rfl) rfl (fun C X XE => ?_)
  show hm_W C 0 0 _ M 0 [some (.ref (ad 0 0)), some (.int g), some (.int s), some (.int t), some (.int points), some (.int value), some (.int slack), none] []
  refine hr_iload_n X dX5_setNumber_0 rfl ?_
  refine hr_callSX X XE kC5_45 dX5_setNumber_1 (c_X5_checkClass cA (M := M) g) rfl rfl rfl (Nat.le_of_ble_eq_true rfl) ⟨⟨(Nat.le_of_ble_eq_true rfl), (Nat.le_of_ble_eq_true rfl)⟩, (Nat.le_of_ble_eq_true rfl), (Nat.le_of_ble_eq_true rfl)⟩ (Nat.le_of_ble_eq_true rfl) (Nat.le_of_ble_eq_true rfl) (fun _ _ h => ⟨(Or.inl ⟨(show sp_thSet sg g s t (sp_areN points value slack) (2) = 1 by unfold sp_thSet sp_name; rw [h.1]; rfl), h.2.1⟩), (h.2.2 ▸ hR)⟩) (fun v M1 hp1 => ?_)
  obtain ⟨h1, rfl, rfl⟩ := hp1
  obtain ⟨g, hg, rfl⟩ := sp_in_g h1
  refine hr_aload_n X dX5_setNumber_4 rfl (Or.inr ⟨_, rfl⟩) ?_
  refine hr_iload_n X dX5_setNumber_5 rfl ?_
  refine hr_callVX X XE kC5_49 dX5_setNumber_6 (c_X5_sheetAt cA hR hI s) hR.c0 rfl rfl rfl rfl (Nat.le_of_ble_eq_true rfl) ⟨⟨(Nat.le_of_ble_eq_true rfl), (Nat.le_of_ble_eq_true rfl)⟩, (Nat.le_of_ble_eq_true rfl), (Nat.le_of_ble_eq_true rfl)⟩ (Nat.le_of_ble_eq_true rfl) (Nat.le_of_ble_eq_true rfl) (fun _ _ h => ⟨(Or.inl ⟨(show sp_thSet sg (nI g) s t (sp_areN points value slack) (2) = 1 by unfold sp_thSet sp_name; rw [h.1, Bool.and_false]; rfl), h.2.1⟩), (h.2.2 ▸ hR)⟩) (fun v M6 hp6 => ?_)
  obtain ⟨⟨a, ha, hs, rfl, rfl⟩, rfl⟩ := hp6
  obtain ⟨ha1, ha4⟩ := cr_isS_4 hI hs
  have hS1 : sp_isS sg (nI a) = true := by rw [← cr_isS_nat hI ha]; exact hs
  refine hr_astore X dX5_setNumber_9 (Nat.le_of_ble_eq_true rfl) (Or.inr ⟨_, rfl⟩) ?_
  refine hr_iload_n X dX5_setNumber_11 rfl ?_
  refine hr_callSX X XE kC5_53 dX5_setNumber_12 (c_X5_checkTask cA (M := M) t) rfl rfl rfl (Nat.le_of_ble_eq_true rfl) ⟨⟨(Nat.le_of_ble_eq_true rfl), (Nat.le_of_ble_eq_true rfl)⟩, (Nat.le_of_ble_eq_true rfl), (Nat.le_of_ble_eq_true rfl)⟩ (Nat.le_of_ble_eq_true rfl) (Nat.le_of_ble_eq_true rfl) (fun _ _ h => ⟨(Or.inl ⟨(show sp_thSet sg (nI g) (nI a) t (sp_areN points value slack) (2) = 1 by unfold sp_thSet sp_name; rw [h.1, Bool.and_false]; rfl), h.2.1⟩), (h.2.2 ▸ hR)⟩) (fun v M12 hp12 => ?_)
  obtain ⟨h12, rfl, rfl⟩ := hp12
  obtain ⟨t, ht, rfl⟩ := sp_in_t5 h12
  have hN : sp_name sg (nI g) (nI a) (nI t) = true := sb_andT (sb_andT h1 hS1) h12
  have en : nN (nI a) = a := nI_clamp (by omega)
  have en2 : nN (nI g) = g := nI_clamp (by omega)
  have en3 : nN (nI t) = t := nI_clamp (by omega)
  refine hr_iload X dX5_setNumber_15 rfl ?_
  refine hr_iconst (1) X dX5_setNumber_17 (by decide) ?_
  refine hr_bipush (10) X dX5_setNumber_18 (by decide) ?_
  refine hr_callSX X XE kC5_56 dX5_setNumber_20 (c_X5_checkRange cA (M := M) points 1 10) rfl rfl rfl (Nat.le_of_ble_eq_true rfl) ⟨⟨(Nat.le_of_ble_eq_true rfl), (Nat.le_of_ble_eq_true rfl)⟩, (Nat.le_of_ble_eq_true rfl), (Nat.le_of_ble_eq_true rfl)⟩ (Nat.le_of_ble_eq_true rfl) (Nat.le_of_ble_eq_true rfl) (fun _ _ h => ⟨(Or.inr (Or.inl ⟨(show sp_thSet sg (nI g) (nI a) (nI t) (sp_areN points value slack) (2) = 2 by unfold sp_thSet; rw [hN, if_pos rfl, if_neg (by rw [show sp_areN points value slack = false by unfold sp_areN; rw [h.1]; rfl]; decide)]), h.2.1⟩)), (h.2.2 ▸ hR)⟩) (fun v M20 hp20 => ?_)
  obtain ⟨h20, rfl, rfl⟩ := hp20
  refine hr_iload X dX5_setNumber_23 rfl ?_
  refine hr_iload X dX5_setNumber_25 rfl ?_
  refine hr_callSX X XE kC5_60 dX5_setNumber_27 (c_X5_checkNumberRule cA (M := M) value slack) rfl rfl rfl (Nat.le_of_ble_eq_true rfl) ⟨⟨(Nat.le_of_ble_eq_true rfl), (Nat.le_of_ble_eq_true rfl)⟩, (Nat.le_of_ble_eq_true rfl), (Nat.le_of_ble_eq_true rfl)⟩ (Nat.le_of_ble_eq_true rfl) (Nat.le_of_ble_eq_true rfl) (fun _ _ h => ⟨(Or.inr (Or.inl ⟨(show sp_thSet sg (nI g) (nI a) (nI t) (sp_areN points value slack) (2) = 2 by unfold sp_thSet; rw [hN, if_pos rfl, if_neg (by rw [show sp_areN points value slack = false by unfold sp_areN; rw [Bool.and_assoc, h.1, Bool.and_false]]; decide)]), h.2.1⟩)), (h.2.2 ▸ hR)⟩) (fun v M27 hp27 => ?_)
  obtain ⟨h27, rfl, rfl⟩ := hp27
  have hare : sp_areN points value slack = true := by
    unfold sp_areN
    rw [Bool.and_eq_true] at h27
    rw [h20, h27.1, h27.2]
    rfl
  refine hr_aload_n X dX5_setNumber_30 rfl (Or.inr ⟨_, rfl⟩) ?_
  refine hr_iload_n X dX5_setNumber_31 rfl ?_
  refine hr_aload X dX5_setNumber_32 rfl (Or.inr ⟨_, rfl⟩) ?_
  refine hr_iload_n X dX5_setNumber_34 rfl ?_
  refine hr_new [.int 0, .int 0, .int 0, .int 0] X kN5_64 dX5_setNumber_35 (by intro j hj; rcases j with _ | _ | _ | _ | j <;> first | rfl | omega) ⟨(Nat.le_of_ble_eq_true rfl), (Nat.le_of_ble_eq_true rfl)⟩ (fun q hq => ?_)
  have hq0 : M0 q = none := by
    cases z : M0 q with
    | none => rfl
    | some e =>
      have := hR.2.2 q e z
      rw [hq] at this
      cases this
  have hR1 := hR.fresh (e := (.inr (1, [.int 0, .int points, .int value, .int slack]))) hq
  have hle : ∀ y e, M0 y = some e → hm_up M0 q (.inr (1, [.int 0, .int points, .int value, .int slack])) y = some e := fun y e hy => (hm_up_n (fun z => by rw [z, hq0] at hy; cases hy)).trans hy
  refine hr_dup X dX5_setNumber_38 rfl ?_
  refine hr_iconst (0) X dX5_setNumber_39 (by decide) ?_
  refine hr_iload X dX5_setNumber_40 rfl ?_
  refine hr_iload X dX5_setNumber_42 rfl ?_
  refine hr_iload X dX5_setNumber_44 rfl ?_
  refine hr_callI X kC5_66 dX5_setNumber_46 (c_X1_init cA (b := q) hm_up_s 0 points value slack) rfl rfl rfl (Nat.le_of_ble_eq_true rfl) ⟨⟨(Nat.le_of_ble_eq_true rfl), (Nat.le_of_ble_eq_true rfl)⟩, (Nat.le_of_ble_eq_true rfl), (Nat.le_of_ble_eq_true rfl)⟩ (fun v M46 hp46 => ?_)
  obtain ⟨rfl, rfl⟩ := hp46
  rw [hm_up_up]
  refine hr_callVX X XE kC5_69 dX5_setNumber_49 (c_X5_revise cA hR1 hq0 hI hok g a t hg hs ht 0 (Or.inl ⟨rfl, h20, (Bool.and_eq_true _ _ ▸ h27).1, (Bool.and_eq_true _ _ ▸ h27).2⟩) rfl) hR1.c0 rfl rfl rfl rfl (Nat.le_of_ble_eq_true rfl) ⟨⟨(Nat.le_of_ble_eq_true rfl), (Nat.le_of_ble_eq_true rfl)⟩, (Nat.le_of_ble_eq_true rfl), (Nat.le_of_ble_eq_true rfl)⟩ (Nat.le_of_ble_eq_true rfl) (Nat.le_of_ble_eq_true rfl) (fun _ _ h => ⟨(Or.inr (Or.inr ⟨(show sp_thSet sg (nI g) (nI a) (nI t) (sp_areN points value slack) (2) = 3 by unfold sp_thSet; rw [hN, show (sp_areN points value slack) = true from hare, en, en2, show sp_canRev sg g a (2) = false from h.1]; rfl), h.2.1⟩)), (h.2.2 ▸ hR1.less hle)⟩) (fun v M49 hp49 => ?_)
  obtain ⟨hcan, rfl, ta2, ad2, hR2, hok2, had⟩ := hp49
  have hz : sp_thSet sg (nI g) (nI a) (nI t) (sp_areN points value slack) (2) = 0 := by
    unfold sp_thSet
    rw [hN, show (sp_areN points value slack) = true from hare, en, en2, show sp_canRev sg g a (2) = true from hcan]
    rfl
  exact hr_iretX X dX5_setNumber_52 (Nat.le_of_ble_eq_true rfl) (Nat.le_of_ble_eq_true rfl) ⟨hz, by rw [en], ta2, ad2, by rw [en, en2, en3]; exact hR2, by rw [en, en2, en3]; exact hok2, had⟩
set_option maxHeartbeats 4000000 in
set_option maxRecDepth 100000 in
theorem c_X5_setChoice (cA : Nat → ClassId) {sg ta : mm_S} {ad : Nat → Nat → Nat} {M0 M : hm_M} (hR : cr_R cA sg ta ad M0 M) (hI : sp_I sg) (hok : cr_ok sg ta) (g s t points signs : Int32) : hm_XMet cA yX5_setChoice cX5_setChoice 7 (some .int) r_X5_setChoice [.ref (ad 0 0), .int g, .int s, .int t, .int points, .int signs] M (fun v' M' => sp_thSet sg g s t (sp_areC points signs) (1) = 0 ∧ v' = some (.int (sg 5 (nN s))) ∧ ∃ (ta' : mm_S) (ad' : Nat → Nat → Nat), cr_R cA (sp_rev sg (nN g) (nN s) (nN t) 1 points signs 0) ta' ad' M0 M' ∧ cr_ok (sp_rev sg (nN g) (nN s) (nN t) 1 points signs 0) ta' ∧ ad' 0 0 = ad 0 0) (fun E M' => ((sp_thSet sg g s t (sp_areC points signs) (1) = 1 ∧ E = "java/lang/IndexOutOfBoundsException") ∨ (sp_thSet sg g s t (sp_areC points signs) (1) = 2 ∧ E = "java/lang/IllegalArgumentException") ∨ (sp_thSet sg g s t (sp_areC points signs) (1) = 3 ∧ E = "java/lang/IllegalStateException")) ∧ cr_R cA sg ta ad M0 M') := by
  refine hm_xmet 1 (by decide +kernel) (fun w h => by simp only [List.mem_cons, List.not_mem_nil, or_false] at h; rcases h with rfl | rfl | rfl | rfl | rfl | rfl <;> rfl) rfl (fun C X XE => ?_)
  show hm_W C 0 0 _ M 0 [some (.ref (ad 0 0)), some (.int g), some (.int s), some (.int t), some (.int points), some (.int signs), none] []
  refine hr_iload_n X dX5_setChoice_0 rfl ?_
  refine hr_callSX X XE kC5_45 dX5_setChoice_1 (c_X5_checkClass cA (M := M) g) rfl rfl rfl (Nat.le_of_ble_eq_true rfl) ⟨⟨(Nat.le_of_ble_eq_true rfl), (Nat.le_of_ble_eq_true rfl)⟩, (Nat.le_of_ble_eq_true rfl), (Nat.le_of_ble_eq_true rfl)⟩ (Nat.le_of_ble_eq_true rfl) (Nat.le_of_ble_eq_true rfl) (fun _ _ h => ⟨(Or.inl ⟨(show sp_thSet sg g s t (sp_areC points signs) (1) = 1 by unfold sp_thSet sp_name; rw [h.1]; rfl), h.2.1⟩), (h.2.2 ▸ hR)⟩) (fun v M1 hp1 => ?_)
  obtain ⟨h1, rfl, rfl⟩ := hp1
  obtain ⟨g, hg, rfl⟩ := sp_in_g h1
  refine hr_aload_n X dX5_setChoice_4 rfl (Or.inr ⟨_, rfl⟩) ?_
  refine hr_iload_n X dX5_setChoice_5 rfl ?_
  refine hr_callVX X XE kC5_49 dX5_setChoice_6 (c_X5_sheetAt cA hR hI s) hR.c0 rfl rfl rfl rfl (Nat.le_of_ble_eq_true rfl) ⟨⟨(Nat.le_of_ble_eq_true rfl), (Nat.le_of_ble_eq_true rfl)⟩, (Nat.le_of_ble_eq_true rfl), (Nat.le_of_ble_eq_true rfl)⟩ (Nat.le_of_ble_eq_true rfl) (Nat.le_of_ble_eq_true rfl) (fun _ _ h => ⟨(Or.inl ⟨(show sp_thSet sg (nI g) s t (sp_areC points signs) (1) = 1 by unfold sp_thSet sp_name; rw [h.1, Bool.and_false]; rfl), h.2.1⟩), (h.2.2 ▸ hR)⟩) (fun v M6 hp6 => ?_)
  obtain ⟨⟨a, ha, hs, rfl, rfl⟩, rfl⟩ := hp6
  obtain ⟨ha1, ha4⟩ := cr_isS_4 hI hs
  have hS1 : sp_isS sg (nI a) = true := by rw [← cr_isS_nat hI ha]; exact hs
  refine hr_astore X dX5_setChoice_9 (Nat.le_of_ble_eq_true rfl) (Or.inr ⟨_, rfl⟩) ?_
  refine hr_iload_n X dX5_setChoice_11 rfl ?_
  refine hr_callSX X XE kC5_53 dX5_setChoice_12 (c_X5_checkTask cA (M := M) t) rfl rfl rfl (Nat.le_of_ble_eq_true rfl) ⟨⟨(Nat.le_of_ble_eq_true rfl), (Nat.le_of_ble_eq_true rfl)⟩, (Nat.le_of_ble_eq_true rfl), (Nat.le_of_ble_eq_true rfl)⟩ (Nat.le_of_ble_eq_true rfl) (Nat.le_of_ble_eq_true rfl) (fun _ _ h => ⟨(Or.inl ⟨(show sp_thSet sg (nI g) (nI a) t (sp_areC points signs) (1) = 1 by unfold sp_thSet sp_name; rw [h.1, Bool.and_false]; rfl), h.2.1⟩), (h.2.2 ▸ hR)⟩) (fun v M12 hp12 => ?_)
  obtain ⟨h12, rfl, rfl⟩ := hp12
  obtain ⟨t, ht, rfl⟩ := sp_in_t5 h12
  have hN : sp_name sg (nI g) (nI a) (nI t) = true := sb_andT (sb_andT h1 hS1) h12
  have en : nN (nI a) = a := nI_clamp (by omega)
  have en2 : nN (nI g) = g := nI_clamp (by omega)
  have en3 : nN (nI t) = t := nI_clamp (by omega)
  refine hr_iload X dX5_setChoice_15 rfl ?_
  refine hr_iconst (1) X dX5_setChoice_17 (by decide) ?_
  refine hr_bipush (10) X dX5_setChoice_18 (by decide) ?_
  refine hr_callSX X XE kC5_56 dX5_setChoice_20 (c_X5_checkRange cA (M := M) points 1 10) rfl rfl rfl (Nat.le_of_ble_eq_true rfl) ⟨⟨(Nat.le_of_ble_eq_true rfl), (Nat.le_of_ble_eq_true rfl)⟩, (Nat.le_of_ble_eq_true rfl), (Nat.le_of_ble_eq_true rfl)⟩ (Nat.le_of_ble_eq_true rfl) (Nat.le_of_ble_eq_true rfl) (fun _ _ h => ⟨(Or.inr (Or.inl ⟨(show sp_thSet sg (nI g) (nI a) (nI t) (sp_areC points signs) (1) = 2 by unfold sp_thSet; rw [hN, if_pos rfl, if_neg (by rw [show sp_areC points signs = false by unfold sp_areC; rw [h.1]; rfl]; decide)]), h.2.1⟩)), (h.2.2 ▸ hR)⟩) (fun v M20 hp20 => ?_)
  obtain ⟨h20, rfl, rfl⟩ := hp20
  refine hr_iload X dX5_setChoice_23 rfl ?_
  refine hr_iconst (0) X dX5_setChoice_25 (by decide) ?_
  refine hr_bipush (31) X dX5_setChoice_26 (by decide) ?_
  refine hr_callSX X XE kC5_56 dX5_setChoice_28 (c_X5_checkRange cA (M := M) signs 0 31) rfl rfl rfl (Nat.le_of_ble_eq_true rfl) ⟨⟨(Nat.le_of_ble_eq_true rfl), (Nat.le_of_ble_eq_true rfl)⟩, (Nat.le_of_ble_eq_true rfl), (Nat.le_of_ble_eq_true rfl)⟩ (Nat.le_of_ble_eq_true rfl) (Nat.le_of_ble_eq_true rfl) (fun _ _ h => ⟨(Or.inr (Or.inl ⟨(show sp_thSet sg (nI g) (nI a) (nI t) (sp_areC points signs) (1) = 2 by unfold sp_thSet; rw [hN, if_pos rfl, if_neg (by rw [show sp_areC points signs = false by unfold sp_areC; rw [h.1, Bool.and_false]]; decide)]), h.2.1⟩)), (h.2.2 ▸ hR)⟩) (fun v M28 hp28 => ?_)
  obtain ⟨h28, rfl, rfl⟩ := hp28
  have hare : sp_areC points signs = true := by
    unfold sp_areC
    rw [h20, h28]
    rfl
  refine hr_aload_n X dX5_setChoice_31 rfl (Or.inr ⟨_, rfl⟩) ?_
  refine hr_iload_n X dX5_setChoice_32 rfl ?_
  refine hr_aload X dX5_setChoice_33 rfl (Or.inr ⟨_, rfl⟩) ?_
  refine hr_iload_n X dX5_setChoice_35 rfl ?_
  refine hr_new [.int 0, .int 0, .int 0, .int 0] X kN5_64 dX5_setChoice_36 (by intro j hj; rcases j with _ | _ | _ | _ | j <;> first | rfl | omega) ⟨(Nat.le_of_ble_eq_true rfl), (Nat.le_of_ble_eq_true rfl)⟩ (fun q hq => ?_)
  have hq0 : M0 q = none := by
    cases z : M0 q with
    | none => rfl
    | some e =>
      have := hR.2.2 q e z
      rw [hq] at this
      cases this
  have hR1 := hR.fresh (e := (.inr (1, [.int 1, .int points, .int signs, .int 0]))) hq
  have hle : ∀ y e, M0 y = some e → hm_up M0 q (.inr (1, [.int 1, .int points, .int signs, .int 0])) y = some e := fun y e hy => (hm_up_n (fun z => by rw [z, hq0] at hy; cases hy)).trans hy
  refine hr_dup X dX5_setChoice_39 rfl ?_
  refine hr_iconst (1) X dX5_setChoice_40 (by decide) ?_
  refine hr_iload X dX5_setChoice_41 rfl ?_
  refine hr_iload X dX5_setChoice_43 rfl ?_
  refine hr_iconst (0) X dX5_setChoice_45 (by decide) ?_
  refine hr_callI X kC5_66 dX5_setChoice_46 (c_X1_init cA (b := q) hm_up_s 1 points signs 0) rfl rfl rfl (Nat.le_of_ble_eq_true rfl) ⟨⟨(Nat.le_of_ble_eq_true rfl), (Nat.le_of_ble_eq_true rfl)⟩, (Nat.le_of_ble_eq_true rfl), (Nat.le_of_ble_eq_true rfl)⟩ (fun v M46 hp46 => ?_)
  obtain ⟨rfl, rfl⟩ := hp46
  rw [hm_up_up]
  refine hr_callVX X XE kC5_69 dX5_setChoice_49 (c_X5_revise cA hR1 hq0 hI hok g a t hg hs ht 1 (Or.inr (Or.inl ⟨rfl, h20, h28⟩)) rfl) hR1.c0 rfl rfl rfl rfl (Nat.le_of_ble_eq_true rfl) ⟨⟨(Nat.le_of_ble_eq_true rfl), (Nat.le_of_ble_eq_true rfl)⟩, (Nat.le_of_ble_eq_true rfl), (Nat.le_of_ble_eq_true rfl)⟩ (Nat.le_of_ble_eq_true rfl) (Nat.le_of_ble_eq_true rfl) (fun _ _ h => ⟨(Or.inr (Or.inr ⟨(show sp_thSet sg (nI g) (nI a) (nI t) (sp_areC points signs) (1) = 3 by unfold sp_thSet; rw [hN, show (sp_areC points signs) = true from hare, en, en2, show sp_canRev sg g a (1) = false from h.1]; rfl), h.2.1⟩)), (h.2.2 ▸ hR1.less hle)⟩) (fun v M49 hp49 => ?_)
  obtain ⟨hcan, rfl, ta2, ad2, hR2, hok2, had⟩ := hp49
  have hz : sp_thSet sg (nI g) (nI a) (nI t) (sp_areC points signs) (1) = 0 := by
    unfold sp_thSet
    rw [hN, show (sp_areC points signs) = true from hare, en, en2, show sp_canRev sg g a (1) = true from hcan]
    rfl
  exact hr_iretX X dX5_setChoice_52 (Nat.le_of_ble_eq_true rfl) (Nat.le_of_ble_eq_true rfl) ⟨hz, by rw [en], ta2, ad2, by rw [en, en2, en3]; exact hR2, by rw [en, en2, en3]; exact hok2, had⟩
set_option maxHeartbeats 4000000 in
set_option maxRecDepth 100000 in
theorem c_X5_setWords (cA : Nat → ClassId) {sg ta : mm_S} {ad : Nat → Nat → Nat} {M0 M : hm_M} (hR : cr_R cA sg ta ad M0 M) (hI : sp_I sg) (hok : cr_ok sg ta) (g s t points words : Int32) : hm_XMet cA yX5_setWords cX5_setWords 7 (some .int) r_X5_setWords [.ref (ad 0 0), .int g, .int s, .int t, .int points, .int words] M (fun v' M' => sp_thSet sg g s t (sp_areW points words) (nI (sp_len words)) = 0 ∧ v' = some (.int (sg 5 (nN s))) ∧ ∃ (ta' : mm_S) (ad' : Nat → Nat → Nat), cr_R cA (sp_rev sg (nN g) (nN s) (nN t) 2 points words 0) ta' ad' M0 M' ∧ cr_ok (sp_rev sg (nN g) (nN s) (nN t) 2 points words 0) ta' ∧ ad' 0 0 = ad 0 0) (fun E M' => ((sp_thSet sg g s t (sp_areW points words) (nI (sp_len words)) = 1 ∧ E = "java/lang/IndexOutOfBoundsException") ∨ (sp_thSet sg g s t (sp_areW points words) (nI (sp_len words)) = 2 ∧ E = "java/lang/IllegalArgumentException") ∨ (sp_thSet sg g s t (sp_areW points words) (nI (sp_len words)) = 3 ∧ E = "java/lang/IllegalStateException")) ∧ cr_R cA sg ta ad M0 M') := by
  refine hm_xmet 1 (by decide +kernel) (fun w h => by simp only [List.mem_cons, List.not_mem_nil, or_false] at h; rcases h with rfl | rfl | rfl | rfl | rfl | rfl <;> rfl) rfl (fun C X XE => ?_)
  show hm_W C 0 0 _ M 0 [some (.ref (ad 0 0)), some (.int g), some (.int s), some (.int t), some (.int points), some (.int words), none] []
  refine hr_iload_n X dX5_setWords_0 rfl ?_
  refine hr_callSX X XE kC5_45 dX5_setWords_1 (c_X5_checkClass cA (M := M) g) rfl rfl rfl (Nat.le_of_ble_eq_true rfl) ⟨⟨(Nat.le_of_ble_eq_true rfl), (Nat.le_of_ble_eq_true rfl)⟩, (Nat.le_of_ble_eq_true rfl), (Nat.le_of_ble_eq_true rfl)⟩ (Nat.le_of_ble_eq_true rfl) (Nat.le_of_ble_eq_true rfl) (fun _ _ h => ⟨(Or.inl ⟨(show sp_thSet sg g s t (sp_areW points words) (nI (sp_len words)) = 1 by unfold sp_thSet sp_name; rw [h.1]; rfl), h.2.1⟩), (h.2.2 ▸ hR)⟩) (fun v M1 hp1 => ?_)
  obtain ⟨h1, rfl, rfl⟩ := hp1
  obtain ⟨g, hg, rfl⟩ := sp_in_g h1
  refine hr_aload_n X dX5_setWords_4 rfl (Or.inr ⟨_, rfl⟩) ?_
  refine hr_iload_n X dX5_setWords_5 rfl ?_
  refine hr_callVX X XE kC5_49 dX5_setWords_6 (c_X5_sheetAt cA hR hI s) hR.c0 rfl rfl rfl rfl (Nat.le_of_ble_eq_true rfl) ⟨⟨(Nat.le_of_ble_eq_true rfl), (Nat.le_of_ble_eq_true rfl)⟩, (Nat.le_of_ble_eq_true rfl), (Nat.le_of_ble_eq_true rfl)⟩ (Nat.le_of_ble_eq_true rfl) (Nat.le_of_ble_eq_true rfl) (fun _ _ h => ⟨(Or.inl ⟨(show sp_thSet sg (nI g) s t (sp_areW points words) (nI (sp_len words)) = 1 by unfold sp_thSet sp_name; rw [h.1, Bool.and_false]; rfl), h.2.1⟩), (h.2.2 ▸ hR)⟩) (fun v M6 hp6 => ?_)
  obtain ⟨⟨a, ha, hs, rfl, rfl⟩, rfl⟩ := hp6
  obtain ⟨ha1, ha4⟩ := cr_isS_4 hI hs
  have hS1 : sp_isS sg (nI a) = true := by rw [← cr_isS_nat hI ha]; exact hs
  refine hr_astore X dX5_setWords_9 (Nat.le_of_ble_eq_true rfl) (Or.inr ⟨_, rfl⟩) ?_
  refine hr_iload_n X dX5_setWords_11 rfl ?_
  refine hr_callSX X XE kC5_53 dX5_setWords_12 (c_X5_checkTask cA (M := M) t) rfl rfl rfl (Nat.le_of_ble_eq_true rfl) ⟨⟨(Nat.le_of_ble_eq_true rfl), (Nat.le_of_ble_eq_true rfl)⟩, (Nat.le_of_ble_eq_true rfl), (Nat.le_of_ble_eq_true rfl)⟩ (Nat.le_of_ble_eq_true rfl) (Nat.le_of_ble_eq_true rfl) (fun _ _ h => ⟨(Or.inl ⟨(show sp_thSet sg (nI g) (nI a) t (sp_areW points words) (nI (sp_len words)) = 1 by unfold sp_thSet sp_name; rw [h.1, Bool.and_false]; rfl), h.2.1⟩), (h.2.2 ▸ hR)⟩) (fun v M12 hp12 => ?_)
  obtain ⟨h12, rfl, rfl⟩ := hp12
  obtain ⟨t, ht, rfl⟩ := sp_in_t5 h12
  have hN : sp_name sg (nI g) (nI a) (nI t) = true := sb_andT (sb_andT h1 hS1) h12
  have en : nN (nI a) = a := nI_clamp (by omega)
  have en2 : nN (nI g) = g := nI_clamp (by omega)
  have en3 : nN (nI t) = t := nI_clamp (by omega)
  refine hr_iload X dX5_setWords_15 rfl ?_
  refine hr_iconst (1) X dX5_setWords_17 (by decide) ?_
  refine hr_bipush (10) X dX5_setWords_18 (by decide) ?_
  refine hr_callSX X XE kC5_56 dX5_setWords_20 (c_X5_checkRange cA (M := M) points 1 10) rfl rfl rfl (Nat.le_of_ble_eq_true rfl) ⟨⟨(Nat.le_of_ble_eq_true rfl), (Nat.le_of_ble_eq_true rfl)⟩, (Nat.le_of_ble_eq_true rfl), (Nat.le_of_ble_eq_true rfl)⟩ (Nat.le_of_ble_eq_true rfl) (Nat.le_of_ble_eq_true rfl) (fun _ _ h => ⟨(Or.inr (Or.inl ⟨(show sp_thSet sg (nI g) (nI a) (nI t) (sp_areW points words) (nI (sp_len words)) = 2 by unfold sp_thSet; rw [hN, if_pos rfl, if_neg (by rw [show sp_areW points words = false by unfold sp_areW; rw [h.1]; rfl]; decide)]), h.2.1⟩)), (h.2.2 ▸ hR)⟩) (fun v M20 hp20 => ?_)
  obtain ⟨h20, rfl, rfl⟩ := hp20
  refine hr_iload X dX5_setWords_23 rfl ?_
  refine hr_callSX X XE kC5_73 dX5_setWords_25 (c_X5_checkWordsRule cA (M := M) words) rfl rfl rfl (Nat.le_of_ble_eq_true rfl) ⟨⟨(Nat.le_of_ble_eq_true rfl), (Nat.le_of_ble_eq_true rfl)⟩, (Nat.le_of_ble_eq_true rfl), (Nat.le_of_ble_eq_true rfl)⟩ (Nat.le_of_ble_eq_true rfl) (Nat.le_of_ble_eq_true rfl) (fun _ _ h => ⟨(Or.inr (Or.inl ⟨(show sp_thSet sg (nI g) (nI a) (nI t) (sp_areW points words) (nI (sp_len words)) = 2 by unfold sp_thSet; rw [hN, if_pos rfl, if_neg (by rw [show sp_areW points words = false by unfold sp_areW; rw [h.1, Bool.and_false]]; decide)]), h.2.1⟩)), (h.2.2 ▸ hR)⟩) (fun v M25 hp25 => ?_)
  obtain ⟨h25, rfl, rfl⟩ := hp25
  have hare : sp_areW points words = true := by
    unfold sp_areW
    rw [h20, h25]
    rfl
  refine hr_aload_n X dX5_setWords_28 rfl (Or.inr ⟨_, rfl⟩) ?_
  refine hr_iload_n X dX5_setWords_29 rfl ?_
  refine hr_aload X dX5_setWords_30 rfl (Or.inr ⟨_, rfl⟩) ?_
  refine hr_iload_n X dX5_setWords_32 rfl ?_
  refine hr_new [.int 0, .int 0, .int 0, .int 0] X kN5_64 dX5_setWords_33 (by intro j hj; rcases j with _ | _ | _ | _ | j <;> first | rfl | omega) ⟨(Nat.le_of_ble_eq_true rfl), (Nat.le_of_ble_eq_true rfl)⟩ (fun q hq => ?_)
  have hq0 : M0 q = none := by
    cases z : M0 q with
    | none => rfl
    | some e =>
      have := hR.2.2 q e z
      rw [hq] at this
      cases this
  have hR1 := hR.fresh (e := (.inr (1, [.int 2, .int points, .int words, .int 0]))) hq
  have hle : ∀ y e, M0 y = some e → hm_up M0 q (.inr (1, [.int 2, .int points, .int words, .int 0])) y = some e := fun y e hy => (hm_up_n (fun z => by rw [z, hq0] at hy; cases hy)).trans hy
  refine hr_dup X dX5_setWords_36 rfl ?_
  refine hr_iconst (2) X dX5_setWords_37 (by decide) ?_
  refine hr_iload X dX5_setWords_38 rfl ?_
  refine hr_iload X dX5_setWords_40 rfl ?_
  refine hr_iconst (0) X dX5_setWords_42 (by decide) ?_
  refine hr_callI X kC5_66 dX5_setWords_43 (c_X1_init cA (b := q) hm_up_s 2 points words 0) rfl rfl rfl (Nat.le_of_ble_eq_true rfl) ⟨⟨(Nat.le_of_ble_eq_true rfl), (Nat.le_of_ble_eq_true rfl)⟩, (Nat.le_of_ble_eq_true rfl), (Nat.le_of_ble_eq_true rfl)⟩ (fun v M43 hp43 => ?_)
  obtain ⟨rfl, rfl⟩ := hp43
  rw [hm_up_up]
  refine hr_callVX X XE kC5_69 dX5_setWords_46 (c_X5_revise cA hR1 hq0 hI hok g a t hg hs ht 2 (Or.inr (Or.inr (Or.inl ⟨rfl, h20, h25⟩))) rfl) hR1.c0 rfl rfl rfl rfl (Nat.le_of_ble_eq_true rfl) ⟨⟨(Nat.le_of_ble_eq_true rfl), (Nat.le_of_ble_eq_true rfl)⟩, (Nat.le_of_ble_eq_true rfl), (Nat.le_of_ble_eq_true rfl)⟩ (Nat.le_of_ble_eq_true rfl) (Nat.le_of_ble_eq_true rfl) (fun _ _ h => ⟨(Or.inr (Or.inr ⟨(show sp_thSet sg (nI g) (nI a) (nI t) (sp_areW points words) (nI (sp_len words)) = 3 by unfold sp_thSet; rw [hN, show (sp_areW points words) = true from hare, en, en2, show sp_canRev sg g a (nI (sp_len words)) = false from h.1]; rfl), h.2.1⟩)), (h.2.2 ▸ hR1.less hle)⟩) (fun v M46 hp46 => ?_)
  obtain ⟨hcan, rfl, ta2, ad2, hR2, hok2, had⟩ := hp46
  have hz : sp_thSet sg (nI g) (nI a) (nI t) (sp_areW points words) (nI (sp_len words)) = 0 := by
    unfold sp_thSet
    rw [hN, show (sp_areW points words) = true from hare, en, en2, show sp_canRev sg g a (nI (sp_len words)) = true from hcan]
    rfl
  exact hr_iretX X dX5_setWords_49 (Nat.le_of_ble_eq_true rfl) (Nat.le_of_ble_eq_true rfl) ⟨hz, by rw [en], ta2, ad2, by rw [en, en2, en3]; exact hR2, by rw [en, en2, en3]; exact hok2, had⟩
set_option maxHeartbeats 4000000 in
set_option maxRecDepth 100000 in
theorem c_X5_drop (cA : Nat → ClassId) {sg ta : mm_S} {ad : Nat → Nat → Nat} {M0 M : hm_M} (hR : cr_R cA sg ta ad M0 M) (hI : sp_I sg) (hok : cr_ok sg ta) (g s t : Int32) : hm_XMet cA yX5_drop cX5_drop 5 (some .int) r_X5_drop [.ref (ad 0 0), .int g, .int s, .int t] M (fun v' M' => sp_thDrop sg g s t = 0 ∧ v' = some (.int (sg 5 (nN s))) ∧ ∃ (ta' : mm_S) (ad' : Nat → Nat → Nat), cr_R cA (sp_rev sg (nN g) (nN s) (nN t) 3 0 0 0) ta' ad' M0 M' ∧ cr_ok (sp_rev sg (nN g) (nN s) (nN t) 3 0 0 0) ta' ∧ ad' 0 0 = ad 0 0) (fun E M' => ((sp_thDrop sg g s t = 1 ∧ E = "java/lang/IndexOutOfBoundsException") ∨ (sp_thDrop sg g s t = 2 ∧ E = "java/lang/IllegalStateException")) ∧ cr_R cA sg ta ad M0 M') := by
  refine hm_xmet 1 (by decide +kernel) (fun w h => by simp only [List.mem_cons, List.not_mem_nil, or_false] at h; rcases h with rfl | rfl | rfl | rfl <;> rfl) rfl (fun C X XE => ?_)
  show hm_W C 0 0 _ M 0 [some (.ref (ad 0 0)), some (.int g), some (.int s), some (.int t), none] []
  refine hr_iload_n X dX5_drop_0 rfl ?_
  refine hr_callSX X XE kC5_45 dX5_drop_1 (c_X5_checkClass cA (M := M) g) rfl rfl rfl (Nat.le_of_ble_eq_true rfl) ⟨⟨(Nat.le_of_ble_eq_true rfl), (Nat.le_of_ble_eq_true rfl)⟩, (Nat.le_of_ble_eq_true rfl), (Nat.le_of_ble_eq_true rfl)⟩ (Nat.le_of_ble_eq_true rfl) (Nat.le_of_ble_eq_true rfl) (fun _ _ h => ⟨(Or.inl ⟨(show sp_thDrop sg g s t = 1 by unfold sp_thDrop sp_name; rw [h.1]; rfl), h.2.1⟩), (h.2.2 ▸ hR)⟩) (fun v M1 hp1 => ?_)
  obtain ⟨h1, rfl, rfl⟩ := hp1
  obtain ⟨g, hg, rfl⟩ := sp_in_g h1
  refine hr_aload_n X dX5_drop_4 rfl (Or.inr ⟨_, rfl⟩) ?_
  refine hr_iload_n X dX5_drop_5 rfl ?_
  refine hr_callVX X XE kC5_49 dX5_drop_6 (c_X5_sheetAt cA hR hI s) hR.c0 rfl rfl rfl rfl (Nat.le_of_ble_eq_true rfl) ⟨⟨(Nat.le_of_ble_eq_true rfl), (Nat.le_of_ble_eq_true rfl)⟩, (Nat.le_of_ble_eq_true rfl), (Nat.le_of_ble_eq_true rfl)⟩ (Nat.le_of_ble_eq_true rfl) (Nat.le_of_ble_eq_true rfl) (fun _ _ h => ⟨(Or.inl ⟨(show sp_thDrop sg (nI g) s t = 1 by unfold sp_thDrop sp_name; rw [h.1, Bool.and_false]; rfl), h.2.1⟩), (h.2.2 ▸ hR)⟩) (fun v M6 hp6 => ?_)
  obtain ⟨⟨a, ha, hs, rfl, rfl⟩, rfl⟩ := hp6
  obtain ⟨ha1, ha4⟩ := cr_isS_4 hI hs
  have hS1 : sp_isS sg (nI a) = true := by rw [← cr_isS_nat hI ha]; exact hs
  refine hr_astore X dX5_drop_9 (Nat.le_of_ble_eq_true rfl) (Or.inr ⟨_, rfl⟩) ?_
  refine hr_iload_n X dX5_drop_11 rfl ?_
  refine hr_callSX X XE kC5_53 dX5_drop_12 (c_X5_checkTask cA (M := M) t) rfl rfl rfl (Nat.le_of_ble_eq_true rfl) ⟨⟨(Nat.le_of_ble_eq_true rfl), (Nat.le_of_ble_eq_true rfl)⟩, (Nat.le_of_ble_eq_true rfl), (Nat.le_of_ble_eq_true rfl)⟩ (Nat.le_of_ble_eq_true rfl) (Nat.le_of_ble_eq_true rfl) (fun _ _ h => ⟨(Or.inl ⟨(show sp_thDrop sg (nI g) (nI a) t = 1 by unfold sp_thDrop sp_name; rw [h.1, Bool.and_false]; rfl), h.2.1⟩), (h.2.2 ▸ hR)⟩) (fun v M12 hp12 => ?_)
  obtain ⟨h12, rfl, rfl⟩ := hp12
  obtain ⟨t, ht, rfl⟩ := sp_in_t5 h12
  have hN : sp_name sg (nI g) (nI a) (nI t) = true := sb_andT (sb_andT h1 hS1) h12
  have en : nN (nI a) = a := nI_clamp (by omega)
  have en2 : nN (nI g) = g := nI_clamp (by omega)
  have en3 : nN (nI t) = t := nI_clamp (by omega)
  obtain ⟨w, w1, w2, w3⟩ := cr_hd_nat hI ha1 hg
  have w16 := w1.1
  refine hr_aload X dX5_drop_15 rfl (Or.inr ⟨_, rfl⟩) ?_
  refine hr_get X kF5_76 dX5_drop_17 (hR.c8 hs) rfl ?_
  refine hr_iload_n X dX5_drop_20 rfl ?_
  refine hr_aald 4 X rfl dX5_drop_21 (hR.c10 hs) (mm_in rfl (by omega) (by decide)).1 ?_
  rw [nI_clamp (by omega), w3]
  refine hr_iload_n X dX5_drop_22 rfl ?_
  refine hr_callS X kC5_80 dX5_drop_23 (c_X5_taskOf cA hR hI a w t ha1 w1 ht) rfl rfl rfl (Nat.le_of_ble_eq_true rfl) ⟨⟨(Nat.le_of_ble_eq_true rfl), (Nat.le_of_ble_eq_true rfl)⟩, (Nat.le_of_ble_eq_true rfl), (Nat.le_of_ble_eq_true rfl)⟩ (fun v M23 hp => ?_)
  obtain ⟨rfl, rfl⟩ := hp
  refine hr_ifnonnull 39 X dX5_drop_26 (by decide) (fun a26 c26 => ?_) (fun c26 => ?_)
  · have hhas : sp_hasB (sp_has sg a w t) = true := by
      cases hq : sp_has sg a w t with
      | none => rw [hq] at c26; cases c26
      | some u => rfl
    refine hr_aload_n X dX5_drop_39 rfl (Or.inr ⟨_, rfl⟩) ?_
    refine hr_iload_n X dX5_drop_40 rfl ?_
    refine hr_aload X dX5_drop_41 rfl (Or.inr ⟨_, rfl⟩) ?_
    refine hr_iload_n X dX5_drop_43 rfl ?_
    refine hr_new [.int 0, .int 0, .int 0, .int 0] X kN5_64 dX5_drop_44 (by intro j hj; rcases j with _ | _ | _ | _ | j <;> first | rfl | omega) ⟨(Nat.le_of_ble_eq_true rfl), (Nat.le_of_ble_eq_true rfl)⟩ (fun q hq => ?_)
    have hq0 : M0 q = none := by
      cases z : M0 q with
      | none => rfl
      | some e =>
        have := hR.2.2 q e z
        rw [hq] at this
        cases this
    have hR1 := hR.fresh (e := (.inr (1, [.int (-1), .int 0, .int 0, .int 0]))) hq
    have hle : ∀ y e, M0 y = some e → hm_up M0 q (.inr (1, [.int (-1), .int 0, .int 0, .int 0])) y = some e := fun y e hy => (hm_up_n (fun z => by rw [z, hq0] at hy; cases hy)).trans hy
    refine hr_dup X dX5_drop_47 rfl ?_
    refine hr_iconst (-1) X dX5_drop_48 (by decide) ?_
    refine hr_iconst (0) X dX5_drop_49 (by decide) ?_
    refine hr_iconst (0) X dX5_drop_50 (by decide) ?_
    refine hr_iconst (0) X dX5_drop_51 (by decide) ?_
    refine hr_callI X kC5_66 dX5_drop_52 (c_X1_init cA (b := q) hm_up_s (-1) 0 0 0) rfl rfl rfl (Nat.le_of_ble_eq_true rfl) ⟨⟨(Nat.le_of_ble_eq_true rfl), (Nat.le_of_ble_eq_true rfl)⟩, (Nat.le_of_ble_eq_true rfl), (Nat.le_of_ble_eq_true rfl)⟩ (fun v M52 hp52 => ?_)
    obtain ⟨rfl, rfl⟩ := hp52
    rw [hm_up_up]
    refine hr_callVX X XE kC5_69 dX5_drop_55 (c_X5_revise cA hR1 hq0 hI hok g a t hg hs ht 3 (Or.inr (Or.inr (Or.inr rfl))) rfl) hR1.c0 rfl rfl rfl rfl (Nat.le_of_ble_eq_true rfl) ⟨⟨(Nat.le_of_ble_eq_true rfl), (Nat.le_of_ble_eq_true rfl)⟩, (Nat.le_of_ble_eq_true rfl), (Nat.le_of_ble_eq_true rfl)⟩ (Nat.le_of_ble_eq_true rfl) (Nat.le_of_ble_eq_true rfl) (fun _ _ h => ⟨(Or.inr ⟨(show sp_thDrop sg (nI g) (nI a) (nI t) = 2 by unfold sp_thDrop; rw [hN, en, en2, en3, w2, show nN (nI w) = w from nI_clamp (by omega), hhas, show sp_canRev sg g a 1 = false from h.1]; rfl), h.2.1⟩), (h.2.2 ▸ hR1.less hle)⟩) (fun v M55 hp55 => ?_)
    obtain ⟨hcan, rfl, ta2, ad2, hR2, hok2, had⟩ := hp55
    have hz : sp_thDrop sg (nI g) (nI a) (nI t) = 0 := by
      unfold sp_thDrop
      rw [hN, en, en2, en3, w2, show nN (nI w) = w from nI_clamp (by omega), hhas, show sp_canRev sg g a 1 = true from hcan]
      rfl
    exact hr_iretX X dX5_drop_58 (Nat.le_of_ble_eq_true rfl) (Nat.le_of_ble_eq_true rfl) ⟨hz, by rw [en], ta2, ad2, by rw [en, en2, en3]; exact hR2, by rw [en, en2, en3]; exact hok2, had⟩
  · have hhas : sp_hasB (sp_has sg a w t) = false := by
      cases hq : sp_has sg a w t with
      | none => rfl
      | some u => rw [hq] at c26; cases c26
    exact hr_throw X XE kT5_37_84_41 dX5_drop_29 dX5_drop_32 dX5_drop_33 dX5_drop_35 dX5_drop_38 rfl ⟨(Nat.le_of_ble_eq_true rfl), (Nat.le_of_ble_eq_true rfl), (Nat.le_of_ble_eq_true rfl), (Nat.le_of_ble_eq_true rfl)⟩ (Nat.le_of_ble_eq_true rfl) (Nat.le_of_ble_eq_true rfl) ⟨Or.inr ⟨(show sp_thDrop sg (nI g) (nI a) (nI t) = 2 by unfold sp_thDrop; rw [hN, en, en2, en3, w2, show nN (nI w) = w from nI_clamp (by omega), hhas]; rfl), rfl⟩, hR⟩
