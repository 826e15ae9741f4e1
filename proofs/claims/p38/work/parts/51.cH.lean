/-! the entry that sets a task; a group's use -/
theorem cr_isE_th {sg : mm_S} {s u t : Nat} (hs : s < sp_n sg) (hu : u < 16) (ht : t < 5) (h4 : ¬ sg 6 (sp_e s u t) = 4) : cr_isE sg (sp_e s u t) = true := by
  unfold cr_isE
  rw [show sp_e s u t / 5 / 16 = s by unfold sp_e; omega, decide_eq_true hs, decide_eq_false h4]
  rfl
theorem cr_kd_m1 {sg : mm_S} (hI : sp_I sg) {s u t : Nat} (hs : s < 4) (hu : u < 16) (ht : t < 5) : cr_kd sg (sp_e s u t) = -1 ↔ sg 6 (sp_e s u t) = 3 := by
  obtain ⟨q, hq, he⟩ := (hI.i5 s u t hs hu ht).1
  unfold cr_kd
  by_cases h : sg 6 (sp_e s u t) = 3
  · rw [if_pos h]; exact ⟨fun _ => h, fun _ => rfl⟩
  · rw [if_neg h, he]
    rw [he] at h
    exact ⟨fun z => absurd z (nI_m1 (by omega)), fun z => absurd z h⟩
theorem cr_n4 {sg : mm_S} (hI : sp_I sg) {s : Nat} (hs : s < sp_n sg) : s < 4 := Nat.lt_of_lt_of_le hs hI.i1.2
set_option maxHeartbeats 4000000 in
set_option maxRecDepth 100000 in
theorem c_X5_taskOf (cA : Nat → ClassId) {sg ta : mm_S} {ad : Nat → Nat → Nat} {M0 M : hm_M} (hR : cr_R cA sg ta ad M0 M) (hI : sp_I sg) (s v t : Nat) (hs : s < sp_n sg) (hv : sp_th sg s v) (ht : t < 5) : hm_Met cA yX5_taskOf cX5_taskOf 4 (some (.object "SheetVault$Entry")) r_X5_taskOf [.ref (ad 13 (16 * s + v)), .int (nI t)] M (fun v' M' => v' = some (va_rf ((sp_has sg s v t).map (fun u => ad 15 (sp_e s u t)))) ∧ M = M') := by
  refine hm_met 2 (by decide +kernel) (fun w h => by simp only [List.mem_cons, List.not_mem_nil, or_false] at h; rcases h with rfl | rfl <;> rfl) rfl (fun C X => ?_)
  show hm_W C 0 0 _ M 0 [some (.ref (ad 13 (16 * s + v))), some (.int (nI t)), none, none] []
  refine hr_aload_n X dX5_taskOf_0 rfl (Or.inr ⟨_, rfl⟩) ?_
  refine hr_iload_n X dX5_taskOf_1 rfl ?_
  refine hr_callS X kC5_142 dX5_taskOf_2 (c_X5_tellerOf cA hR hI s v t hs hv ht) rfl rfl rfl (Nat.le_of_ble_eq_true rfl) ⟨⟨(Nat.le_of_ble_eq_true rfl), (Nat.le_of_ble_eq_true rfl)⟩, (Nat.le_of_ble_eq_true rfl), (Nat.le_of_ble_eq_true rfl)⟩ (fun v M2 hp => ?_)
  obtain ⟨rfl, rfl⟩ := hp
  refine hr_astore_n X dX5_taskOf_5 (Nat.le_of_ble_eq_true rfl) (hm_rf _) ?_
  refine hr_aload_n X dX5_taskOf_6 rfl (hm_rf _) ?_
  refine hr_ifnonnull 12 X dX5_taskOf_7 (by decide) (fun a7 c7 => ?_) (fun c7 => ?_)
  · obtain ⟨u, hu⟩ : ∃ u, sp_tel sg s v t = some u := by
      cases hq : sp_tel sg s v t with
      | none => rw [hq] at c7; cases c7
      | some u => exact ⟨u, rfl⟩
    obtain ⟨u1, u2, u3⟩ := sp_tel_some hI hs hv hu
    have hx := cr_isV_th hs u1
    have he := cr_isE_th hs u1.1 ht u3
    have h15 := hR.c15 he
    rw [hu]
    refine hr_aload_n X dX5_taskOf_12 rfl (hm_rf _) ?_
    refine hr_get X kF5_296 dX5_taskOf_13 (hR.c13 hx) rfl ?_
    refine hr_iload_n X dX5_taskOf_16 rfl ?_
    refine hr_aald 5 X rfl dX5_taskOf_17 (hR.c14 hx) (mm_in rfl (by omega) (by decide)).1 ?_
    rw [nI_clamp (by omega), if_neg (show ¬ sg 6 (5 * (16 * s + u) + t) = 4 from u3)]
    refine hr_astore_n X dX5_taskOf_18 (Nat.le_of_ble_eq_true rfl) (hm_rf _) ?_
    refine hr_aload_n X dX5_taskOf_19 rfl (hm_rf _) ?_
    refine hr_ifnull 31 X dX5_taskOf_20 (by decide) (fun c20 => ?_) (fun a20 c20 => ?_)
    · exact absurd c20 (by intro q; cases q)
    · refine hr_aload_n X dX5_taskOf_23 rfl (hm_rf _) ?_
      refine hr_get X kF5_139 dX5_taskOf_24 h15 rfl ?_
      refine hr_iconst (-1) X dX5_taskOf_27 (by decide) ?_
      refine hr_icmp_ne 35 X dX5_taskOf_28 (by decide) (fun c28 => ?_) (fun c28 => ?_)
      · have hz : sp_has sg s v t = some u := by
          unfold sp_has
          rw [hu]
          exact if_neg (fun q => c28 ((cr_kd_m1 hI (cr_n4 hI hs) u1.1 ht).mpr q))
        refine hr_aload_n X dX5_taskOf_35 rfl (hm_rf _) ?_
        exact hr_aret X dX5_taskOf_36 (by first | exact Or.inl rfl | exact hm_rf _) (Nat.le_of_ble_eq_true rfl) (Nat.le_of_ble_eq_true rfl) ⟨by rw [hz]; rfl, rfl⟩
      · have hz : sp_has sg s v t = none := by
          unfold sp_has
          rw [hu]
          exact if_pos ((cr_kd_m1 hI (cr_n4 hI hs) u1.1 ht).mp c28)
        refine hr_null X dX5_taskOf_31 ?_
        refine hr_goto 36 X dX5_taskOf_32 (by decide) ?_
        exact hr_aret X dX5_taskOf_36 (by first | exact Or.inl rfl | exact hm_rf _) (Nat.le_of_ble_eq_true rfl) (Nat.le_of_ble_eq_true rfl) ⟨by rw [hz]; rfl, rfl⟩
  · have hz : sp_has sg s v t = none := by
      unfold sp_has
      cases hq : sp_tel sg s v t with
      | none => rfl
      | some u => rw [hq] at c7; cases c7
    refine hr_null X dX5_taskOf_10 ?_
    exact hr_aret X dX5_taskOf_11 (Or.inl rfl) (Nat.le_of_ble_eq_true rfl) (Nat.le_of_ble_eq_true rfl) ⟨by rw [hz]; rfl, rfl⟩
