/-! quotas -/
def sb_pas (sg ta : mm_S) (g growth : Int32) : Bool := sp_in g 0 3 && (decide (0 < growth) && decide (sg 12 (nN g) < ta 0 (nN g) + growth))
theorem hm_bI_e0 {b : Bool} (h : hm_bI b = 0) : b = false := hm_bI_eq.mp h
set_option maxHeartbeats 4000000 in
set_option maxRecDepth 100000 in
theorem c_X5_passesQuota (cA : Nat → ClassId) {sg ta : mm_S} {ad : Nat → Nat → Nat} {M0 M : hm_M} (hR : cr_R cA sg ta ad M0 M) (hI : sp_I sg) (g growth : Int32) : hm_Met cA yX5_passesQuota cX5_passesQuota 3 (some .boolean) r_X5_passesQuota [.ref (ad 0 0), .int g, .int growth] M (hm_pu (some (.int (hm_bI (sb_pas sg ta g growth)))) M) := by
  refine hm_met 0 (by decide +kernel) (fun w h => by simp only [List.mem_cons, List.not_mem_nil, or_false] at h; rcases h with rfl | rfl | rfl <;> rfl) rfl (fun C X => ?_)
  show hm_W C 0 0 _ M 0 [some (.ref (ad 0 0)), some (.int g), some (.int growth)] []
  refine hr_iload_n X dX5_passesQuota_0 rfl ?_
  refine hr_callS X kC5_390 dX5_passesQuota_1 (c_X5_isClass cA (M := M) g) rfl rfl rfl (Nat.le_of_ble_eq_true rfl) ⟨⟨(Nat.le_of_ble_eq_true rfl), (Nat.le_of_ble_eq_true rfl)⟩, (Nat.le_of_ble_eq_true rfl), (Nat.le_of_ble_eq_true rfl)⟩ (fun v M1 hp => ?_)
  obtain ⟨rfl, rfl⟩ := hp
  refine hr_if_eq 32 X dX5_passesQuota_4 (by decide) (fun c4 => ?_) (fun c4 => ?_)
  · have hz : sb_pas sg ta g growth = false := sb_andF1 (hm_bI_e0 c4)
    refine hr_iconst (0) X dX5_passesQuota_32 (by decide) ?_
    exact hr_zret X dX5_passesQuota_33 (by rfl) (Nat.le_of_ble_eq_true rfl) (Nat.le_of_ble_eq_true rfl) ⟨by rw [hz]; rfl, rfl⟩
  · have hg0 := hm_bI_ne.mp c4
    obtain ⟨g, hg, rfl⟩ := sp_in_g hg0
    refine hr_iload_n X dX5_passesQuota_7 rfl ?_
    refine hr_if_le 32 X dX5_passesQuota_8 (by decide) (fun c8 => ?_) (fun c8 => ?_)
    · have hz : sb_pas sg ta (nI g) growth = false := sb_andF2 (sb_andF1 (decide_eq_false (Int32.not_lt.mpr c8)))
      refine hr_iconst (0) X dX5_passesQuota_32 (by decide) ?_
      exact hr_zret X dX5_passesQuota_33 (by rfl) (Nat.le_of_ble_eq_true rfl) (Nat.le_of_ble_eq_true rfl) ⟨by rw [hz]; rfl, rfl⟩
    · refine hr_aload_n X dX5_passesQuota_11 rfl (Or.inr ⟨_, rfl⟩) ?_
      refine hr_get X kF5_23 dX5_passesQuota_12 hR.c0 rfl ?_
      refine hr_iload_n X dX5_passesQuota_15 rfl ?_
      refine hr_iald X dX5_passesQuota_16 hR.c3 (mm_in rfl (by omega) (by decide)).1 ?_
      refine hr_iload_n X dX5_passesQuota_17 rfl ?_
      refine hr_iadd X dX5_passesQuota_18 ?_
      refine hr_aload_n X dX5_passesQuota_19 rfl (Or.inr ⟨_, rfl⟩) ?_
      refine hr_get X kF5_19 dX5_passesQuota_20 hR.c0 rfl ?_
      refine hr_iload_n X dX5_passesQuota_23 rfl ?_
      refine hr_iald X dX5_passesQuota_24 hR.c2 (mm_in rfl (by omega) (by decide)).1 ?_
      refine hr_icmp_le 32 X dX5_passesQuota_25 (by decide) (fun c25 => ?_) (fun c25 => ?_)
      · have hz : sb_pas sg ta (nI g) growth = false := sb_andF2 (sb_andF2 (decide_eq_false (Int32.not_lt.mpr c25)))
        refine hr_iconst (0) X dX5_passesQuota_32 (by decide) ?_
        exact hr_zret X dX5_passesQuota_33 (by rfl) (Nat.le_of_ble_eq_true rfl) (Nat.le_of_ble_eq_true rfl) ⟨by rw [hz]; rfl, rfl⟩
      · have hz : sb_pas sg ta (nI g) growth = true := sb_andT hg0 (sb_andT (decide_eq_true (Int32.not_le.mp c8)) (decide_eq_true (Int32.not_le.mp c25)))
        refine hr_iconst (1) X dX5_passesQuota_28 (by decide) ?_
        refine hr_goto 33 X dX5_passesQuota_29 (by decide) ?_
        exact hr_zret X dX5_passesQuota_33 (by rfl) (Nat.le_of_ble_eq_true rfl) (Nat.le_of_ble_eq_true rfl) ⟨by rw [hz]; rfl, rfl⟩
