/-! what a group uses is counted up -/
theorem cr_cell_u {cA : Nat → ClassId} {sg ta ta' : mm_S} {ad : Nat → Nat → Nat} (h : ∀ j, j ≠ 0 → ta' j = ta j) : ∀ q x, q ≠ 3 → cr_cell cA sg ta' ad q x = cr_cell cA sg ta ad q x := by
  intro q x hq
  unfold cr_cell
  split <;> first | rfl | exact absurd rfl hq | simp [h]
theorem cr_R.use {cA : Nat → ClassId} {sg ta : mm_S} {ad : Nat → Nat → Nat} {M0 M : hm_M} (h : cr_R cA sg ta ad M0 M) (g : Nat) (v : Int32) : cr_R cA sg (mm_up ta 0 g v) ad M0 (hm_up M (ad 3 0) (.inl (cA 0, 4, .inl (upd (ta 0) g v)))) := by
  refine h.set (q0 := 3) (x0 := 0) (e0 := cr_iw cA 0 4 (ta 0)) rfl ?_ ?_
  · show some (cr_iw cA 0 4 ((mm_up ta 0 g v) 0)) = _
    rw [mm_up_row]
    rfl
  · intro q x hq
    by_cases h3 : q = 3
    · subst h3
      have hx : x ≠ 0 := fun z => hq ⟨rfl, z⟩
      show cr_ob (decide (x = 0)) _ = cr_ob (decide (x = 0)) _
      rw [decide_eq_false hx]
      rfl
    · exact cr_cell_u (fun j hj => mm_up_j hj) q x h3
set_option maxHeartbeats 4000000 in
set_option maxRecDepth 100000 in
theorem c_X5_addUse (cA : Nat → ClassId) {sg ta : mm_S} {ad : Nat → Nat → Nat} {M0 M : hm_M} (hR : cr_R cA sg ta ad M0 M) (hI : sp_I sg) (g growth : Int32) : hm_Met cA yX5_addUse cX5_addUse 3 none r_X5_addUse [.ref (ad 0 0), .int g, .int growth] M (fun v' M' => v' = none ∧ (sp_in g 0 3 = false → M = M') ∧ (sp_in g 0 3 = true → cr_R cA sg (mm_up ta 0 (nN g) (ta 0 (nN g) + growth)) ad M0 M')) := by
  refine hm_met 0 (by decide +kernel) (fun w h => by simp only [List.mem_cons, List.not_mem_nil, or_false] at h; rcases h with rfl | rfl | rfl <;> rfl) rfl (fun C X => ?_)
  show hm_W C 0 0 _ M 0 [some (.ref (ad 0 0)), some (.int g), some (.int growth)] []
  refine hr_iload_n X dX5_addUse_0 rfl ?_
  refine hr_callS X kC5_390 dX5_addUse_1 (c_X5_isClass cA (M := M) g) rfl rfl rfl (Nat.le_of_ble_eq_true rfl) ⟨⟨(Nat.le_of_ble_eq_true rfl), (Nat.le_of_ble_eq_true rfl)⟩, (Nat.le_of_ble_eq_true rfl), (Nat.le_of_ble_eq_true rfl)⟩ (fun v M1 hp => ?_)
  obtain ⟨rfl, rfl⟩ := hp
  refine hr_if_eq 17 X dX5_addUse_4 (by decide) (fun c4 => ?_) (fun c4 => ?_)
  · have hz := hm_bI_e0 c4
    exact hr_vret X dX5_addUse_17 (Nat.le_of_ble_eq_true rfl) (Nat.le_of_ble_eq_true rfl) (by first | exact ⟨rfl, fun _ => rfl, fun q => by rw [hz] at q; cases q⟩ | exact ⟨rfl, fun q => (by rw [hg0] at q; cases q), fun _ => hR.use _ _⟩)
  · have hg0 := hm_bI_ne.mp c4
    obtain ⟨g, hg, rfl⟩ := sp_in_g hg0
    refine hr_aload_n X dX5_addUse_7 rfl (Or.inr ⟨_, rfl⟩) ?_
    refine hr_get X kF5_23 dX5_addUse_8 hR.c0 rfl ?_
    refine hr_iload_n X dX5_addUse_11 rfl ?_
    refine hr_dup2 X dX5_addUse_12 rfl rfl ?_
    refine hr_iald X dX5_addUse_13 hR.c3 (mm_in rfl (by omega) (by decide)).1 ?_
    refine hr_iload_n X dX5_addUse_14 rfl ?_
    refine hr_iadd X dX5_addUse_15 ?_
    refine hr_iast X dX5_addUse_16 hR.c3 (mm_in rfl (by omega) (by decide)).1 ?_
    exact hr_vret X dX5_addUse_17 (Nat.le_of_ble_eq_true rfl) (Nat.le_of_ble_eq_true rfl) (by first | exact ⟨rfl, fun _ => rfl, fun q => by rw [hz] at q; cases q⟩ | exact ⟨rfl, fun q => (by rw [hg0] at q; cases q), fun _ => hR.use _ _⟩)
