/-! reading calls: toldIn, kindOf -/
theorem cr_tel_no {sg : mm_S} (hI : sp_I sg) {s v t : Nat} (hs : s < sp_n sg) (hv : sp_th sg s v) : sb_no ((sp_tel sg s v t).map (fun u => 16 * s + u)) = sp_o (sp_tel sg s v t) ∧ ∀ x, (sp_tel sg s v t).map (fun u => 16 * s + u) = some x → cr_isV sg x = true := by
  cases hq : sp_tel sg s v t with
  | none => exact ⟨rfl, fun x q => by cases q⟩
  | some u =>
    have h1 := (sp_tel_some hI hs hv hq).1
    have h16 := h1.1
    refine ⟨?_, fun x q => ?_⟩
    · show nI ((16 * s + u) % 16) = nI u
      rw [show (16 * s + u) % 16 = u by omega]
    · cases q
      exact cr_isV_th hs h1
set_option maxHeartbeats 4000000 in
set_option maxRecDepth 100000 in
theorem c_X5_toldIn (cA : Nat → ClassId) {sg ta : mm_S} {ad : Nat → Nat → Nat} {M0 M : hm_M} (hR : cr_R cA sg ta ad M0 M) (hI : sp_I sg) (s v t : Int32) : hm_XMet cA yX5_toldIn cX5_toldIn 5 (some .int) r_X5_toldIn [.ref (ad 0 0), .int s, .int v, .int t] M (fun v' M' => (sp_isV sg s v && sp_in t 0 4) = true ∧ v' = some (.int (sp_o (sp_tel sg (nN s) (nN v) (nN t)))) ∧ M = M') (fun E M' => (sp_isV sg s v && sp_in t 0 4) = false ∧ E = "java/lang/IndexOutOfBoundsException" ∧ M = M') := by
  refine hm_xmet 1 (by decide +kernel) (fun w h => by simp only [List.mem_cons, List.not_mem_nil, or_false] at h; rcases h with rfl | rfl | rfl | rfl <;> rfl) rfl (fun C X XE => ?_)
  show hm_W C 0 0 _ M 0 [some (.ref (ad 0 0)), some (.int s), some (.int v), some (.int t), none] []
  refine hr_aload_n X dX5_toldIn_0 rfl (Or.inr ⟨_, rfl⟩) ?_
  refine hr_iload_n X dX5_toldIn_1 rfl ?_
  refine hr_callVX X XE kC5_49 dX5_toldIn_2 (c_X5_sheetAt cA hR hI s) hR.c0 rfl rfl rfl rfl (Nat.le_of_ble_eq_true rfl) ⟨⟨(Nat.le_of_ble_eq_true rfl), (Nat.le_of_ble_eq_true rfl)⟩, (Nat.le_of_ble_eq_true rfl), (Nat.le_of_ble_eq_true rfl)⟩ (Nat.le_of_ble_eq_true rfl) (Nat.le_of_ble_eq_true rfl) (fun _ _ h => ⟨sb_andF1 (sp_isV_S h.1), h.2⟩) (fun v M2 hp2 => ?_)
  obtain ⟨⟨a, ha, hs, rfl, rfl⟩, rfl⟩ := hp2
  obtain ⟨ha1, ha4⟩ := cr_isS_4 hI hs
  refine hr_iload_n X dX5_toldIn_5 rfl ?_
  refine hr_callSX X XE kC5_86 dX5_toldIn_6 (c_X5_versionAt cA hR hI a hs v) rfl rfl rfl (Nat.le_of_ble_eq_true rfl) ⟨⟨(Nat.le_of_ble_eq_true rfl), (Nat.le_of_ble_eq_true rfl)⟩, (Nat.le_of_ble_eq_true rfl), (Nat.le_of_ble_eq_true rfl)⟩ (Nat.le_of_ble_eq_true rfl) (Nat.le_of_ble_eq_true rfl) (fun _ _ h => ⟨sb_andF1 h.1, h.2⟩) (fun v M6 hp6 => ?_)
  obtain ⟨⟨c, hc, hn, rfl, rfl⟩, rfl⟩ := hp6
  have hv : sp_th sg a c := ⟨hc, hn⟩
  have hx := cr_isV_th ha1 hv
  have hV := sp_isV_yes hI ha4 hs hc hn
  refine hr_astore X dX5_toldIn_9 (Nat.le_of_ble_eq_true rfl) (Or.inr ⟨_, rfl⟩) ?_
  refine hr_iload_n X dX5_toldIn_11 rfl ?_
  refine hr_callSX X XE kC5_53 dX5_toldIn_12 (c_X5_checkTask cA (M := M) t) rfl rfl rfl (Nat.le_of_ble_eq_true rfl) ⟨⟨(Nat.le_of_ble_eq_true rfl), (Nat.le_of_ble_eq_true rfl)⟩, (Nat.le_of_ble_eq_true rfl), (Nat.le_of_ble_eq_true rfl)⟩ (Nat.le_of_ble_eq_true rfl) (Nat.le_of_ble_eq_true rfl) (fun _ _ h => ⟨sb_andF2 h.1, h.2⟩) (fun v M12 hp12 => ?_)
  obtain ⟨h12, rfl, rfl⟩ := hp12
  obtain ⟨t, ht, rfl⟩ := sp_in_t5 h12
  refine hr_aload X dX5_toldIn_15 rfl (Or.inr ⟨_, rfl⟩) ?_
  refine hr_iload_n X dX5_toldIn_17 rfl ?_
  refine hr_callS X kC5_142 dX5_toldIn_18 (c_X5_tellerOf cA hR hI a c t ha1 hv ht) rfl rfl rfl (Nat.le_of_ble_eq_true rfl) ⟨⟨(Nat.le_of_ble_eq_true rfl), (Nat.le_of_ble_eq_true rfl)⟩, (Nat.le_of_ble_eq_true rfl), (Nat.le_of_ble_eq_true rfl)⟩ (fun v M18 hp => ?_)
  obtain ⟨rfl, rfl⟩ := hp
  rw [show (sp_tel sg a c t).map (fun u => ad 13 (16 * a + u)) = ((sp_tel sg a c t).map (fun u => 16 * a + u)).map (ad 13) by rw [Option.map_map]; rfl]
  refine hr_callS X kC5_90 dX5_toldIn_21 (c_X5_numberOf cA hR hI _ (cr_tel_no hI ha1 hv).2) rfl rfl rfl (Nat.le_of_ble_eq_true rfl) ⟨⟨(Nat.le_of_ble_eq_true rfl), (Nat.le_of_ble_eq_true rfl)⟩, (Nat.le_of_ble_eq_true rfl), (Nat.le_of_ble_eq_true rfl)⟩ (fun v M21 hp => ?_)
  obtain ⟨rfl, rfl⟩ := hp
  exact hr_iretX X dX5_toldIn_24 (Nat.le_of_ble_eq_true rfl) (Nat.le_of_ble_eq_true rfl) ⟨sb_andT hV h12, by rw [show nN (nI a) = a from nI_clamp (by omega), show nN (nI c) = c from nI_clamp (by omega), show nN (nI t) = t from nI_clamp (by omega), (cr_tel_no hI ha1 hv).1], rfl⟩
set_option maxHeartbeats 4000000 in
set_option maxRecDepth 100000 in
theorem c_X5_kindOf (cA : Nat → ClassId) {sg ta : mm_S} {ad : Nat → Nat → Nat} {M0 M : hm_M} (hR : cr_R cA sg ta ad M0 M) (hI : sp_I sg) (s v t : Int32) : hm_XMet cA yX5_kindOf cX5_kindOf 6 (some .int) r_X5_kindOf [.ref (ad 0 0), .int s, .int v, .int t] M (fun v' M' => (sp_isV sg s v && sp_in t 0 4) = true ∧ v' = some (.int (sp_kind sg (nN s) (nN v) (nN t))) ∧ M = M') (fun E M' => (sp_isV sg s v && sp_in t 0 4) = false ∧ E = "java/lang/IndexOutOfBoundsException" ∧ M = M') := by
  refine hm_xmet 2 (by decide +kernel) (fun w h => by simp only [List.mem_cons, List.not_mem_nil, or_false] at h; rcases h with rfl | rfl | rfl | rfl <;> rfl) rfl (fun C X XE => ?_)
  show hm_W C 0 0 _ M 0 [some (.ref (ad 0 0)), some (.int s), some (.int v), some (.int t), none, none] []
  refine hr_aload_n X dX5_kindOf_0 rfl (Or.inr ⟨_, rfl⟩) ?_
  refine hr_iload_n X dX5_kindOf_1 rfl ?_
  refine hr_callVX X XE kC5_49 dX5_kindOf_2 (c_X5_sheetAt cA hR hI s) hR.c0 rfl rfl rfl rfl (Nat.le_of_ble_eq_true rfl) ⟨⟨(Nat.le_of_ble_eq_true rfl), (Nat.le_of_ble_eq_true rfl)⟩, (Nat.le_of_ble_eq_true rfl), (Nat.le_of_ble_eq_true rfl)⟩ (Nat.le_of_ble_eq_true rfl) (Nat.le_of_ble_eq_true rfl) (fun _ _ h => ⟨sb_andF1 (sp_isV_S h.1), h.2⟩) (fun v M2 hp2 => ?_)
  obtain ⟨⟨a, ha, hs, rfl, rfl⟩, rfl⟩ := hp2
  obtain ⟨ha1, ha4⟩ := cr_isS_4 hI hs
  refine hr_iload_n X dX5_kindOf_5 rfl ?_
  refine hr_callSX X XE kC5_86 dX5_kindOf_6 (c_X5_versionAt cA hR hI a hs v) rfl rfl rfl (Nat.le_of_ble_eq_true rfl) ⟨⟨(Nat.le_of_ble_eq_true rfl), (Nat.le_of_ble_eq_true rfl)⟩, (Nat.le_of_ble_eq_true rfl), (Nat.le_of_ble_eq_true rfl)⟩ (Nat.le_of_ble_eq_true rfl) (Nat.le_of_ble_eq_true rfl) (fun _ _ h => ⟨sb_andF1 h.1, h.2⟩) (fun v M6 hp6 => ?_)
  obtain ⟨⟨c, hc, hn, rfl, rfl⟩, rfl⟩ := hp6
  have hv : sp_th sg a c := ⟨hc, hn⟩
  have hx := cr_isV_th ha1 hv
  have hV := sp_isV_yes hI ha4 hs hc hn
  refine hr_astore X dX5_kindOf_9 (Nat.le_of_ble_eq_true rfl) (Or.inr ⟨_, rfl⟩) ?_
  refine hr_iload_n X dX5_kindOf_11 rfl ?_
  refine hr_callSX X XE kC5_53 dX5_kindOf_12 (c_X5_checkTask cA (M := M) t) rfl rfl rfl (Nat.le_of_ble_eq_true rfl) ⟨⟨(Nat.le_of_ble_eq_true rfl), (Nat.le_of_ble_eq_true rfl)⟩, (Nat.le_of_ble_eq_true rfl), (Nat.le_of_ble_eq_true rfl)⟩ (Nat.le_of_ble_eq_true rfl) (Nat.le_of_ble_eq_true rfl) (fun _ _ h => ⟨sb_andF2 h.1, h.2⟩) (fun v M12 hp12 => ?_)
  obtain ⟨h12, rfl, rfl⟩ := hp12
  obtain ⟨t, ht, rfl⟩ := sp_in_t5 h12
  refine hr_aload X dX5_kindOf_15 rfl (Or.inr ⟨_, rfl⟩) ?_
  refine hr_iload_n X dX5_kindOf_17 rfl ?_
  refine hr_callS X kC5_80 dX5_kindOf_18 (c_X5_taskOf cA hR hI a c t ha1 hv ht) rfl rfl rfl (Nat.le_of_ble_eq_true rfl) ⟨⟨(Nat.le_of_ble_eq_true rfl), (Nat.le_of_ble_eq_true rfl)⟩, (Nat.le_of_ble_eq_true rfl), (Nat.le_of_ble_eq_true rfl)⟩ (fun v M18 hp => ?_)
  obtain ⟨rfl, rfl⟩ := hp
  refine hr_astore X dX5_kindOf_21 (Nat.le_of_ble_eq_true rfl) (hm_rf _) ?_
  refine hr_aload X dX5_kindOf_23 rfl (hm_rf _) ?_
  refine hr_ifnonnull 32 X dX5_kindOf_25 (by decide) (fun a25 c25 => ?_) (fun c25 => ?_)
  · obtain ⟨u, hu⟩ : ∃ u, sp_has sg a c t = some u := by
      cases hq : sp_has sg a c t with
      | none => rw [hq] at c25; cases c25
      | some u => exact ⟨u, rfl⟩
    obtain ⟨u1, u2, u3, u4⟩ := sp_has_some hI ha1 hv hu
    have h15 := hR.c15 (cr_isE_th ha1 u1.1 ht u3)
    have hz : sp_kind sg a c t = cr_kd sg (sp_e a u t) := by
      unfold sp_kind
      rw [hu]
      exact (if_neg u4).symm
    rw [hu]
    refine hr_aload X dX5_kindOf_32 rfl (hm_rf _) ?_
    refine hr_get X kF5_139 dX5_kindOf_34 h15 rfl ?_
    exact hr_iretX X dX5_kindOf_37 (Nat.le_of_ble_eq_true rfl) (Nat.le_of_ble_eq_true rfl) ⟨sb_andT hV h12, by rw [show nN (nI a) = a from nI_clamp (by omega), show nN (nI c) = c from nI_clamp (by omega), show nN (nI t) = t from nI_clamp (by omega), hz], rfl⟩
  · have hz : sp_kind sg a c t = -1 := by
      unfold sp_kind
      cases hq : sp_has sg a c t with
      | none => rfl
      | some u => rw [hq] at c25; cases c25
    refine hr_iconst (-1) X dX5_kindOf_28 (by decide) ?_
    refine hr_goto 37 X dX5_kindOf_29 (by decide) ?_
    exact hr_iretX X dX5_kindOf_37 (Nat.le_of_ble_eq_true rfl) (Nat.le_of_ble_eq_true rfl) ⟨sb_andT hV h12, by rw [show nN (nI a) = a from nI_clamp (by omega), show nN (nI c) = c from nI_clamp (by omega), show nN (nI t) = t from nI_clamp (by omega), hz], rfl⟩
