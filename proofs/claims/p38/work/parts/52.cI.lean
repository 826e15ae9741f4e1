/-! reading calls: sheets, head, used -/
theorem cr_hd_nat {sg : mm_S} (hI : sp_I sg) {s g : Nat} (hs : s < sp_n sg) (hg : g < 4) : ∃ v, sp_th sg s v ∧ sg 10 (4 * s + g) = nI v ∧ cr_hd sg s g = 16 * s + v := by
  obtain ⟨v, h1, h2⟩ := hI.i7 s g hs hg
  exact ⟨v, h2, h1, by unfold cr_hd; rw [h1, show nN (nI v) = v from nI_clamp (by have := h2.1; omega)]⟩
set_option maxHeartbeats 4000000 in
set_option maxRecDepth 100000 in
theorem c_X5_sheets (cA : Nat → ClassId) {sg ta : mm_S} {ad : Nat → Nat → Nat} {M0 M : hm_M} (hR : cr_R cA sg ta ad M0 M) (hI : sp_I sg)  : hm_Met cA yX5_sheets cX5_sheets 1 (some .int) r_X5_sheets [.ref (ad 0 0)] M (hm_pu (some (.int (sg 1 0))) M) := by
  refine hm_met 0 (by decide +kernel) (fun w h => by simp only [List.mem_cons, List.not_mem_nil, or_false] at h; rcases h with rfl <;> rfl) rfl (fun C X => ?_)
  show hm_W C 0 0 _ M 0 [some (.ref (ad 0 0))] []
  refine hr_aload_n X dX5_sheets_0 rfl (Or.inr ⟨_, rfl⟩) ?_
  refine hr_get X kF5_15 dX5_sheets_1 hR.c0 rfl ?_
  exact hr_iret X dX5_sheets_4 (Nat.le_of_ble_eq_true rfl) (Nat.le_of_ble_eq_true rfl) ⟨rfl, rfl⟩
set_option maxHeartbeats 4000000 in
set_option maxRecDepth 100000 in
theorem c_X5_used (cA : Nat → ClassId) {sg ta : mm_S} {ad : Nat → Nat → Nat} {M0 M : hm_M} (hR : cr_R cA sg ta ad M0 M) (hI : sp_I sg) (g : Int32) : hm_XMet cA yX5_used cX5_used 2 (some .int) r_X5_used [.ref (ad 0 0), .int g] M (fun v' M' => sp_in g 0 3 = true ∧ v' = some (.int (ta 0 (nN g))) ∧ M = M') (fun E M' => sp_in g 0 3 = false ∧ E = "java/lang/IndexOutOfBoundsException" ∧ M = M') := by
  refine hm_xmet 0 (by decide +kernel) (fun w h => by simp only [List.mem_cons, List.not_mem_nil, or_false] at h; rcases h with rfl | rfl <;> rfl) rfl (fun C X XE => ?_)
  show hm_W C 0 0 _ M 0 [some (.ref (ad 0 0)), some (.int g)] []
  refine hr_iload_n X dX5_used_0 rfl ?_
  refine hr_callSX X XE kC5_45 dX5_used_1 (c_X5_checkClass cA (M := M) g) rfl rfl rfl (Nat.le_of_ble_eq_true rfl) ⟨⟨(Nat.le_of_ble_eq_true rfl), (Nat.le_of_ble_eq_true rfl)⟩, (Nat.le_of_ble_eq_true rfl), (Nat.le_of_ble_eq_true rfl)⟩ (Nat.le_of_ble_eq_true rfl) (Nat.le_of_ble_eq_true rfl) (fun _ _ h => ⟨h.1, h.2⟩) (fun v M1 hp1 => ?_)
  obtain ⟨h1, rfl, rfl⟩ := hp1
  obtain ⟨g, hg, rfl⟩ := sp_in_g h1
  refine hr_aload_n X dX5_used_4 rfl (Or.inr ⟨_, rfl⟩) ?_
  refine hr_get X kF5_23 dX5_used_5 hR.c0 rfl ?_
  refine hr_iload_n X dX5_used_8 rfl ?_
  refine hr_iald X dX5_used_9 hR.c3 (mm_in rfl (by omega) (by decide)).1 ?_
  exact hr_iretX X dX5_used_10 (Nat.le_of_ble_eq_true rfl) (Nat.le_of_ble_eq_true rfl) ⟨h1, rfl, rfl⟩
set_option maxHeartbeats 4000000 in
set_option maxRecDepth 100000 in
theorem c_X5_head (cA : Nat → ClassId) {sg ta : mm_S} {ad : Nat → Nat → Nat} {M0 M : hm_M} (hR : cr_R cA sg ta ad M0 M) (hI : sp_I sg) (g s : Int32) : hm_XMet cA yX5_head cX5_head 3 (some .int) r_X5_head [.ref (ad 0 0), .int g, .int s] M (fun v' M' => (sp_in g 0 3 && sp_isS sg s) = true ∧ v' = some (.int (sg 10 (4 * nN s + nN g))) ∧ M = M') (fun E M' => (sp_in g 0 3 && sp_isS sg s) = false ∧ E = "java/lang/IndexOutOfBoundsException" ∧ M = M') := by
  refine hm_xmet 0 (by decide +kernel) (fun w h => by simp only [List.mem_cons, List.not_mem_nil, or_false] at h; rcases h with rfl | rfl | rfl <;> rfl) rfl (fun C X XE => ?_)
  show hm_W C 0 0 _ M 0 [some (.ref (ad 0 0)), some (.int g), some (.int s)] []
  refine hr_iload_n X dX5_head_0 rfl ?_
  refine hr_callSX X XE kC5_45 dX5_head_1 (c_X5_checkClass cA (M := M) g) rfl rfl rfl (Nat.le_of_ble_eq_true rfl) ⟨⟨(Nat.le_of_ble_eq_true rfl), (Nat.le_of_ble_eq_true rfl)⟩, (Nat.le_of_ble_eq_true rfl), (Nat.le_of_ble_eq_true rfl)⟩ (Nat.le_of_ble_eq_true rfl) (Nat.le_of_ble_eq_true rfl) (fun _ _ h => ⟨sb_andF1 h.1, h.2⟩) (fun v M1 hp1 => ?_)
  obtain ⟨h1, rfl, rfl⟩ := hp1
  obtain ⟨g, hg, rfl⟩ := sp_in_g h1
  refine hr_aload_n X dX5_head_4 rfl (Or.inr ⟨_, rfl⟩) ?_
  refine hr_iload_n X dX5_head_5 rfl ?_
  refine hr_callVX X XE kC5_49 dX5_head_6 (c_X5_sheetAt cA hR hI s) hR.c0 rfl rfl rfl rfl (Nat.le_of_ble_eq_true rfl) ⟨⟨(Nat.le_of_ble_eq_true rfl), (Nat.le_of_ble_eq_true rfl)⟩, (Nat.le_of_ble_eq_true rfl), (Nat.le_of_ble_eq_true rfl)⟩ (Nat.le_of_ble_eq_true rfl) (Nat.le_of_ble_eq_true rfl) (fun _ _ h => ⟨sb_andF2 h.1, h.2⟩) (fun v M6 hp6 => ?_)
  obtain ⟨⟨a, ha, hs, rfl, rfl⟩, rfl⟩ := hp6
  obtain ⟨v, v1, v2, v3⟩ := cr_hd_nat hI (cr_isS_4 hI hs).1 hg
  have hx := cr_isV_th (cr_isS_4 hI hs).1 v1
  refine hr_get X kF5_76 dX5_head_9 (hR.c8 hs) rfl ?_
  refine hr_iload_n X dX5_head_12 rfl ?_
  refine hr_aald 4 X rfl dX5_head_13 (hR.c10 hs) (mm_in rfl (by omega) (by decide)).1 ?_
  rw [nI_clamp (by omega), v3]
  refine hr_callS X kC5_90 dX5_head_14 (c_X5_numberOf_s cA hR hI (16 * a + v) hx) rfl rfl rfl (Nat.le_of_ble_eq_true rfl) ⟨⟨(Nat.le_of_ble_eq_true rfl), (Nat.le_of_ble_eq_true rfl)⟩, (Nat.le_of_ble_eq_true rfl), (Nat.le_of_ble_eq_true rfl)⟩ (fun v M14 hp => ?_)
  obtain ⟨rfl, rfl⟩ := hp
  exact hr_iretX X dX5_head_17 (Nat.le_of_ble_eq_true rfl) (Nat.le_of_ble_eq_true rfl) ⟨sb_andT h1 (by rw [← cr_isS_nat hI ha]; exact hs), by rw [show nN (nI a) = a from nI_clamp (by omega), show nN (nI g) = g from nI_clamp (by omega), v2, show (16 * a + v) % 16 = v by have := v1.1; omega], rfl⟩
