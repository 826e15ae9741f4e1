set_option maxHeartbeats 4000000 in
set_option maxRecDepth 100000 in
theorem c_X6_mendNumber (cA : Nat → ClassId) {sg ta : mm_S} {ad : Nat → Nat} {mo : Nat} {M0 M : hm_M} (hR : mm_R cA sg ta ad mo M0 M) (hI : sp_I sg) (s v t value slack : Int32) : hm_Met cA yX6_mendNumber cX6_mendNumber 8 (some .int) r_X6_mendNumber [.ref mo, .int s, .int v, .int t, .int value, .int slack] M (mm_P cA ad mo M0 (sp_thMen sg s v t (sp_in value (-1000) 1000 && sp_in slack 0 100) 0) (sp_mendN sg (nN s) (sp_menE sg (nN s) (nN v) (nN t) 0) (value) (slack)) (if sp_thMen sg s v t (sp_in value (-1000) 1000 && sp_in slack 0 100) 0 = 0 then sp_mend sg (nN s) (sp_menE sg (nN s) (nN v) (nN t) 0) (value) (slack) else sg)) := by
  refine hm_met 2 (by decide +kernel) (fun w h => by simp only [List.mem_cons, List.not_mem_nil, or_false] at h; rcases h with rfl | rfl | rfl | rfl | rfl | rfl <;> rfl) rfl (fun C X => ?_)
  show hm_W C 0 0 _ M 0 [some (.ref mo), some (.int s), some (.int v), some (.int t), some (.int value), some (.int slack), none, none] []
  have J30 : hm_W C 0 0 (hm_T C (mm_P cA ad mo M0 (sp_thMen sg s v t (sp_in value (-1000) 1000 && sp_in slack 0 100) 0) (sp_mendN sg (nN s) (sp_menE sg (nN s) (nN v) (nN t) 0) (value) (slack)) (if sp_thMen sg s v t (sp_in value (-1000) 1000 && sp_in slack 0 100) 0 = 0 then sp_mend sg (nN s) (sp_menE sg (nN s) (nN v) (nN t) 0) (value) (slack) else sg)) r_X6_mendNumber.cells r_X6_mendNumber.slots) M 30 [some (.ref mo), some (.int s), some (.int v), some (.int t), some (.int value), some (.int slack), none, none] [.int (hm_bI (sp_in value (-1000) 1000 && sp_in slack 0 100))] := by
    refine hr_istore X dX6_mendNumber_30 (Nat.le_of_ble_eq_true rfl) ?_
    have J59 : hm_W C 0 0 (hm_T C (mm_P cA ad mo M0 (sp_thMen sg s v t (sp_in value (-1000) 1000 && sp_in slack 0 100) 0) (sp_mendN sg (nN s) (sp_menE sg (nN s) (nN v) (nN t) 0) (value) (slack)) (if sp_thMen sg s v t (sp_in value (-1000) 1000 && sp_in slack 0 100) 0 = 0 then sp_mend sg (nN s) (sp_menE sg (nN s) (nN v) (nN t) 0) (value) (slack) else sg)) r_X6_mendNumber.cells r_X6_mendNumber.slots) M 59 [some (.ref mo), some (.int s), some (.int v), some (.int t), some (.int value), some (.int slack), some (.int (hm_bI (sp_in value (-1000) 1000 && sp_in slack 0 100))), none] [.int (hm_bI (sp_nmd sg s v t && (sp_men sg (nN s) (nN v) (nN t) 0).isSome))] := by
      refine hr_istore X dX6_mendNumber_59 (Nat.le_of_ble_eq_true rfl) ?_
      have J95 : hm_W C 0 0 (hm_T C (mm_P cA ad mo M0 (sp_thMen sg s v t (sp_in value (-1000) 1000 && sp_in slack 0 100) 0) (sp_mendN sg (nN s) (sp_menE sg (nN s) (nN v) (nN t) 0) (value) (slack)) (if sp_thMen sg s v t (sp_in value (-1000) 1000 && sp_in slack 0 100) 0 = 0 then sp_mend sg (nN s) (sp_menE sg (nN s) (nN v) (nN t) 0) (value) (slack) else sg)) r_X6_mendNumber.cells r_X6_mendNumber.slots) M 95 [some (.ref mo), some (.int s), some (.int v), some (.int t), some (.int value), some (.int slack), some (.int (hm_bI (sp_in value (-1000) 1000 && sp_in slack 0 100))), some (.int (hm_bI (sp_nmd sg s v t && (sp_men sg (nN s) (nN v) (nN t) 0).isSome)))] [.int (sp_thMen sg s v t (sp_in value (-1000) 1000 && sp_in slack 0 100) 0), .ref mo] := by
        refine hr_callV X kC6_120 dX6_mendNumber_95 (c_X6_refused cA hR (sp_thMen sg s v t (sp_in value (-1000) 1000 && sp_in slack 0 100) 0)) hR.1 rfl rfl rfl rfl (Nat.le_of_ble_eq_true rfl) ⟨⟨(Nat.le_of_ble_eq_true rfl), (Nat.le_of_ble_eq_true rfl)⟩, (Nat.le_of_ble_eq_true rfl), (Nat.le_of_ble_eq_true rfl)⟩ (fun v M95 hp95 => ?_)
        obtain ⟨hR, rfl⟩ := hp95
        refine hr_if_eq 103 X dX6_mendNumber_98 (by decide) (fun c98 => ?_) (fun c98 => ?_)
        · rw [hm_bz] at c98
          rw [if_pos c98]
          obtain ⟨hn, hare, hsm⟩ := sp_thMen_0 c98
          obtain ⟨a, b, t, ha, ha4, hb, ht, rfl, rfl, rfl, e1, e2, e3⟩ := sp_nmd_nat hI hn
          have hb16 := hb.1
          rw [e1, e2, e3] at hsm
          obtain ⟨u, hq⟩ := Option.isSome_iff_exists.mp hsm
          have hqs := sp_men_some hI ha hb hq
          have hu16 := hqs.2.1.1
          have he : sp_e a u t < 320 := by simp only [sp_e]; omega
          have hE : sp_menE sg a b t 0 = sp_e a u t := by rw [sp_menE, hq]
          refine hr_aload_n X dX6_mendNumber_103 rfl (Or.inr ⟨_, rfl⟩) ?_
          refine hr_iload_n X dX6_mendNumber_104 rfl ?_
          refine hr_aload_n X dX6_mendNumber_105 rfl (Or.inr ⟨_, rfl⟩) ?_
          refine hr_iload_n X dX6_mendNumber_106 rfl ?_
          refine hr_iload_n X dX6_mendNumber_107 rfl ?_
          refine hr_iload_n X dX6_mendNumber_108 rfl ?_
          refine hr_iconst (0) X dX6_mendNumber_109 (by decide) ?_
          refine hr_callV X kC6_186 dX6_mendNumber_110 (c_X6_mended cA hR hI a b t ha hb ht 0) hR.1 rfl rfl rfl rfl (Nat.le_of_ble_eq_true rfl) ⟨⟨(Nat.le_of_ble_eq_true rfl), (Nat.le_of_ble_eq_true rfl)⟩, (Nat.le_of_ble_eq_true rfl), (Nat.le_of_ble_eq_true rfl)⟩ (fun v M110 hp => ?_)
          obtain ⟨rfl, rfl⟩ := hp
          rw [hq]
          refine hr_iload X dX6_mendNumber_113 rfl ?_
          refine hr_iload X dX6_mendNumber_115 rfl ?_
          refine hr_callV X kC6_190 dX6_mendNumber_117 (c_X6_mend cA hR hI a (sp_e a u t) ha ha4 he (value) (slack) (sp_okR_of hqs.2.2 (Or.inl ⟨rfl, by simpa using hare⟩))) hR.1 rfl rfl rfl rfl (Nat.le_of_ble_eq_true rfl) ⟨⟨(Nat.le_of_ble_eq_true rfl), (Nat.le_of_ble_eq_true rfl)⟩, (Nat.le_of_ble_eq_true rfl), (Nat.le_of_ble_eq_true rfl)⟩ (fun v M117 hp117 => ?_)
          obtain ⟨ta1, hR, rfl, hta1⟩ := hp117
          exact hr_iret X dX6_mendNumber_120 (Nat.le_of_ble_eq_true rfl) (Nat.le_of_ble_eq_true rfl) ⟨_, _, by rw [e1, e2, e3, hE]; exact hR, rfl, by rw [hta1]; exact mm_up_s.trans (by rfl), fun _ => by rw [e1, e2, e3, hE]⟩
        · rw [hm_bz] at c98
          rw [if_neg c98]
          refine hr_iconst (0) X dX6_mendNumber_101 (by decide) ?_
          exact hr_iret X dX6_mendNumber_102 (Nat.le_of_ble_eq_true rfl) (Nat.le_of_ble_eq_true rfl) ⟨_, _, hR, rfl, mm_up_s, fun q => absurd q c98⟩
      refine hr_aload_n X dX6_mendNumber_61 rfl (Or.inr ⟨_, rfl⟩) ?_
      refine hr_aload_n X dX6_mendNumber_62 rfl (Or.inr ⟨_, rfl⟩) ?_
      refine hr_iload_n X dX6_mendNumber_63 rfl ?_
      refine hr_iload_n X dX6_mendNumber_64 rfl ?_
      refine hr_iload_n X dX6_mendNumber_65 rfl ?_
      refine hr_callV X kC6_183 dX6_mendNumber_66 (c_X6_isNamed cA hR hI s v t) hR.1 rfl rfl rfl rfl (Nat.le_of_ble_eq_true rfl) ⟨⟨(Nat.le_of_ble_eq_true rfl), (Nat.le_of_ble_eq_true rfl)⟩, (Nat.le_of_ble_eq_true rfl), (Nat.le_of_ble_eq_true rfl)⟩ (fun v M66 hp => ?_)
      obtain ⟨rfl, rfl⟩ := hp
      refine hr_if_ne 76 X dX6_mendNumber_69 (by decide) (fun c69 => ?_) (fun c69 => ?_)
      · rw [hm_bI_ne] at c69
        replace c69 : sp_nmd sg s v t = true := c69
        refine hr_iload X dX6_mendNumber_76 rfl ?_
        refine hr_if_ne 85 X dX6_mendNumber_78 (by decide) (fun c78 => ?_) (fun c78 => ?_)
        · rw [hm_bI_ne] at c78
          refine hr_iload X dX6_mendNumber_85 rfl ?_
          refine hr_if_eq 94 X dX6_mendNumber_87 (by decide) (fun c87 => ?_) (fun c87 => ?_)
          · rw [hm_bI_eq] at c87
            rw [c69, Bool.true_and] at c87
            have hz : sp_thMen sg s v t (sp_in value (-1000) 1000 && sp_in slack 0 100) 0 = 3 := by rw [sp_thMen, if_pos c69, if_pos c78, c87]; rfl
            refine hr_iconst (3) X dX6_mendNumber_94 (by decide) ?_
            exact hr_eq (by rw [hz] <;> rfl) J95
          · rw [hm_bI_ne] at c87
            rw [c69, Bool.true_and] at c87
            have hz : sp_thMen sg s v t (sp_in value (-1000) 1000 && sp_in slack 0 100) 0 = 0 := by rw [sp_thMen, if_pos c69, if_pos c78, c87]; rfl
            refine hr_iconst (0) X dX6_mendNumber_90 (by decide) ?_
            refine hr_goto 95 X dX6_mendNumber_91 (by decide) ?_
            exact hr_eq (by rw [hz] <;> rfl) J95
        · rw [hm_bI_eq] at c78
          have hz : sp_thMen sg s v t (sp_in value (-1000) 1000 && sp_in slack 0 100) 0 = 2 := by simp [sp_thMen, c69, c78]
          refine hr_iconst (2) X dX6_mendNumber_81 (by decide) ?_
          refine hr_goto 95 X dX6_mendNumber_82 (by decide) ?_
          exact hr_eq (by rw [hz] <;> rfl) J95
      · rw [hm_bI_eq] at c69
        replace c69 : sp_nmd sg s v t = false := c69
        have hz : sp_thMen sg s v t (sp_in value (-1000) 1000 && sp_in slack 0 100) 0 = 1 := by simp [sp_thMen, c69]
        refine hr_iconst (1) X dX6_mendNumber_72 (by decide) ?_
        refine hr_goto 95 X dX6_mendNumber_73 (by decide) ?_
        exact hr_eq (by rw [hz] <;> rfl) J95
    refine hr_aload_n X dX6_mendNumber_32 rfl (Or.inr ⟨_, rfl⟩) ?_
    refine hr_iload_n X dX6_mendNumber_33 rfl ?_
    refine hr_iload_n X dX6_mendNumber_34 rfl ?_
    refine hr_iload_n X dX6_mendNumber_35 rfl ?_
    refine hr_callV X kC6_183 dX6_mendNumber_36 (c_X6_isNamed cA hR hI s v t) hR.1 rfl rfl rfl rfl (Nat.le_of_ble_eq_true rfl) ⟨⟨(Nat.le_of_ble_eq_true rfl), (Nat.le_of_ble_eq_true rfl)⟩, (Nat.le_of_ble_eq_true rfl), (Nat.le_of_ble_eq_true rfl)⟩ (fun v M36 hp => ?_)
    obtain ⟨rfl, rfl⟩ := hp
    refine hr_if_eq 58 X dX6_mendNumber_39 (by decide) (fun c39 => ?_) (fun c39 => ?_)
    · rw [hm_bI_eq] at c39
      have hz : (sp_nmd sg s v t && (sp_men sg (nN s) (nN v) (nN t) 0).isSome) = false := by rw [show sp_nmd sg s v t = false from c39]; rfl
      refine hr_iconst (0) X dX6_mendNumber_58 (by decide) ?_
      exact hr_eq (by rw [hz] <;> rfl) J59
    · rw [hm_bI_ne] at c39
      obtain ⟨a, b, t, ha, ha4, hb, ht, rfl, rfl, rfl, e1, e2, e3⟩ := sp_nmd_nat hI c39
      have hb16 := hb.1
      refine hr_aload_n X dX6_mendNumber_42 rfl (Or.inr ⟨_, rfl⟩) ?_
      refine hr_iload_n X dX6_mendNumber_43 rfl ?_
      refine hr_iload_n X dX6_mendNumber_44 rfl ?_
      refine hr_iload_n X dX6_mendNumber_45 rfl ?_
      refine hr_iconst (0) X dX6_mendNumber_46 (by decide) ?_
      refine hr_callV X kC6_186 dX6_mendNumber_47 (c_X6_mended cA hR hI a b t ha hb ht 0) hR.1 rfl rfl rfl rfl (Nat.le_of_ble_eq_true rfl) ⟨⟨(Nat.le_of_ble_eq_true rfl), (Nat.le_of_ble_eq_true rfl)⟩, (Nat.le_of_ble_eq_true rfl), (Nat.le_of_ble_eq_true rfl)⟩ (fun v M47 hp => ?_)
      obtain ⟨rfl, rfl⟩ := hp
      refine hr_iconst (-1) X dX6_mendNumber_50 (by decide) ?_
      refine hr_icmp_eq 58 X dX6_mendNumber_51 (by decide) (fun c51 => ?_) (fun c51 => ?_)
      · have hq : sp_men sg a b t 0 = none := Option.map_eq_none_iff.mp (sp_o_none (fun u h => by
          obtain ⟨w, h1, rfl⟩ := Option.map_eq_some_iff.mp h
          have := (sp_men_some hI ha hb h1).2.1.1
          simp only [sp_e]
          omega) c51)
        have hz : (sp_nmd sg (nI a) (nI b) (nI t) && (sp_men sg (nN (nI a)) (nN (nI b)) (nN (nI t)) 0).isSome) = false := by rw [e1, e2, e3, hq]; simp
        refine hr_iconst (0) X dX6_mendNumber_58 (by decide) ?_
        exact hr_eq (by rw [hz] <;> rfl) J59
      · obtain ⟨w, hw⟩ := sp_o_some c51
        obtain ⟨u, hq, -⟩ := Option.map_eq_some_iff.mp hw
        have hqs := sp_men_some hI ha hb hq
        have hu16 := hqs.2.1.1
        have hz : (sp_nmd sg (nI a) (nI b) (nI t) && (sp_men sg (nN (nI a)) (nN (nI b)) (nN (nI t)) 0).isSome) = true := by rw [e1, e2, e3, hq, show sp_nmd sg (nI a) (nI b) (nI t) = true from c39]; rfl
        refine hr_iconst (1) X dX6_mendNumber_54 (by decide) ?_
        refine hr_goto 59 X dX6_mendNumber_55 (by decide) ?_
        exact hr_eq (by rw [hz] <;> rfl) J59
  refine hr_iload X dX6_mendNumber_0 rfl ?_
  refine hr_sipush (-1000) X dX6_mendNumber_2 (by decide) ?_
  refine hr_sipush (1000) X dX6_mendNumber_5 (by decide) ?_
  refine hr_callS X kC6_87 dX6_mendNumber_8 (c_X6_in cA (M := M) value (-1000) 1000) rfl rfl rfl (Nat.le_of_ble_eq_true rfl) ⟨⟨(Nat.le_of_ble_eq_true rfl), (Nat.le_of_ble_eq_true rfl)⟩, (Nat.le_of_ble_eq_true rfl), (Nat.le_of_ble_eq_true rfl)⟩ (fun v M8 hp => ?_)
  obtain ⟨rfl, rfl⟩ := hp
  refine hr_if_eq 29 X dX6_mendNumber_11 (by decide) (fun c11 => ?_) (fun c11 => ?_)
  · rw [hm_bI_eq] at c11
    have hz : (sp_in value (-1000) 1000 && sp_in slack 0 100) = false := by simp [c11]
    refine hr_iconst (0) X dX6_mendNumber_29 (by decide) ?_
    exact hr_eq (by rw [hz] <;> rfl) J30
  · rw [hm_bI_ne] at c11
    refine hr_iload X dX6_mendNumber_14 rfl ?_
    refine hr_iconst (0) X dX6_mendNumber_16 (by decide) ?_
    refine hr_bipush (100) X dX6_mendNumber_17 (by decide) ?_
    refine hr_callS X kC6_87 dX6_mendNumber_19 (c_X6_in cA (M := M) slack 0 100) rfl rfl rfl (Nat.le_of_ble_eq_true rfl) ⟨⟨(Nat.le_of_ble_eq_true rfl), (Nat.le_of_ble_eq_true rfl)⟩, (Nat.le_of_ble_eq_true rfl), (Nat.le_of_ble_eq_true rfl)⟩ (fun v M19 hp => ?_)
    obtain ⟨rfl, rfl⟩ := hp
    refine hr_if_eq 29 X dX6_mendNumber_22 (by decide) (fun c22 => ?_) (fun c22 => ?_)
    · rw [hm_bI_eq] at c22
      have hz : (sp_in value (-1000) 1000 && sp_in slack 0 100) = false := by simp [c22]
      refine hr_iconst (0) X dX6_mendNumber_29 (by decide) ?_
      exact hr_eq (by rw [hz] <;> rfl) J30
    · rw [hm_bI_ne] at c22
      have hz : (sp_in value (-1000) 1000 && sp_in slack 0 100) = true := by simp [*]
      refine hr_iconst (1) X dX6_mendNumber_25 (by decide) ?_
      refine hr_goto 30 X dX6_mendNumber_26 (by decide) ?_
      exact hr_eq (by rw [hz] <;> rfl) J30
set_option maxHeartbeats 4000000 in
set_option maxRecDepth 100000 in
theorem c_X6_mendChoice (cA : Nat → ClassId) {sg ta : mm_S} {ad : Nat → Nat} {mo : Nat} {M0 M : hm_M} (hR : mm_R cA sg ta ad mo M0 M) (hI : sp_I sg) (s v t signs : Int32) : hm_Met cA yX6_mendChoice cX6_mendChoice 7 (some .int) r_X6_mendChoice [.ref mo, .int s, .int v, .int t, .int signs] M (mm_P cA ad mo M0 (sp_thMen sg s v t (sp_in signs 0 31) 1) (sp_mendN sg (nN s) (sp_menE sg (nN s) (nN v) (nN t) 1) (signs) (0)) (if sp_thMen sg s v t (sp_in signs 0 31) 1 = 0 then sp_mend sg (nN s) (sp_menE sg (nN s) (nN v) (nN t) 1) (signs) (0) else sg)) := by
  refine hm_met 2 (by decide +kernel) (fun w h => by simp only [List.mem_cons, List.not_mem_nil, or_false] at h; rcases h with rfl | rfl | rfl | rfl | rfl <;> rfl) rfl (fun C X => ?_)
  show hm_W C 0 0 _ M 0 [some (.ref mo), some (.int s), some (.int v), some (.int t), some (.int signs), none, none] []
  refine hr_iload X dX6_mendChoice_0 rfl ?_
  refine hr_iconst (0) X dX6_mendChoice_2 (by decide) ?_
  refine hr_bipush (31) X dX6_mendChoice_3 (by decide) ?_
  refine hr_callS X kC6_87 dX6_mendChoice_5 (c_X6_in cA (M := M) signs 0 31) rfl rfl rfl (Nat.le_of_ble_eq_true rfl) ⟨⟨(Nat.le_of_ble_eq_true rfl), (Nat.le_of_ble_eq_true rfl)⟩, (Nat.le_of_ble_eq_true rfl), (Nat.le_of_ble_eq_true rfl)⟩ (fun v M5 hp => ?_)
  obtain ⟨rfl, rfl⟩ := hp
  refine hr_istore X dX6_mendChoice_8 (Nat.le_of_ble_eq_true rfl) ?_
  have J37 : hm_W C 0 0 (hm_T C (mm_P cA ad mo M0 (sp_thMen sg s v t (sp_in signs 0 31) 1) (sp_mendN sg (nN s) (sp_menE sg (nN s) (nN v) (nN t) 1) (signs) (0)) (if sp_thMen sg s v t (sp_in signs 0 31) 1 = 0 then sp_mend sg (nN s) (sp_menE sg (nN s) (nN v) (nN t) 1) (signs) (0) else sg)) r_X6_mendChoice.cells r_X6_mendChoice.slots) M 37 [some (.ref mo), some (.int s), some (.int v), some (.int t), some (.int signs), some (.int (hm_bI (sp_in signs 0 31))), none] [.int (hm_bI (sp_nmd sg s v t && (sp_men sg (nN s) (nN v) (nN t) 1).isSome))] := by
    refine hr_istore X dX6_mendChoice_37 (Nat.le_of_ble_eq_true rfl) ?_
    have J73 : hm_W C 0 0 (hm_T C (mm_P cA ad mo M0 (sp_thMen sg s v t (sp_in signs 0 31) 1) (sp_mendN sg (nN s) (sp_menE sg (nN s) (nN v) (nN t) 1) (signs) (0)) (if sp_thMen sg s v t (sp_in signs 0 31) 1 = 0 then sp_mend sg (nN s) (sp_menE sg (nN s) (nN v) (nN t) 1) (signs) (0) else sg)) r_X6_mendChoice.cells r_X6_mendChoice.slots) M 73 [some (.ref mo), some (.int s), some (.int v), some (.int t), some (.int signs), some (.int (hm_bI (sp_in signs 0 31))), some (.int (hm_bI (sp_nmd sg s v t && (sp_men sg (nN s) (nN v) (nN t) 1).isSome)))] [.int (sp_thMen sg s v t (sp_in signs 0 31) 1), .ref mo] := by
      refine hr_callV X kC6_120 dX6_mendChoice_73 (c_X6_refused cA hR (sp_thMen sg s v t (sp_in signs 0 31) 1)) hR.1 rfl rfl rfl rfl (Nat.le_of_ble_eq_true rfl) ⟨⟨(Nat.le_of_ble_eq_true rfl), (Nat.le_of_ble_eq_true rfl)⟩, (Nat.le_of_ble_eq_true rfl), (Nat.le_of_ble_eq_true rfl)⟩ (fun v M73 hp73 => ?_)
      obtain ⟨hR, rfl⟩ := hp73
      refine hr_if_eq 81 X dX6_mendChoice_76 (by decide) (fun c76 => ?_) (fun c76 => ?_)
      · rw [hm_bz] at c76
        rw [if_pos c76]
        obtain ⟨hn, hare, hsm⟩ := sp_thMen_0 c76
        obtain ⟨a, b, t, ha, ha4, hb, ht, rfl, rfl, rfl, e1, e2, e3⟩ := sp_nmd_nat hI hn
        have hb16 := hb.1
        rw [e1, e2, e3] at hsm
        obtain ⟨u, hq⟩ := Option.isSome_iff_exists.mp hsm
        have hqs := sp_men_some hI ha hb hq
        have hu16 := hqs.2.1.1
        have he : sp_e a u t < 320 := by simp only [sp_e]; omega
        have hE : sp_menE sg a b t 1 = sp_e a u t := by rw [sp_menE, hq]
        refine hr_aload_n X dX6_mendChoice_81 rfl (Or.inr ⟨_, rfl⟩) ?_
        refine hr_iload_n X dX6_mendChoice_82 rfl ?_
        refine hr_aload_n X dX6_mendChoice_83 rfl (Or.inr ⟨_, rfl⟩) ?_
        refine hr_iload_n X dX6_mendChoice_84 rfl ?_
        refine hr_iload_n X dX6_mendChoice_85 rfl ?_
        refine hr_iload_n X dX6_mendChoice_86 rfl ?_
        refine hr_iconst (1) X dX6_mendChoice_87 (by decide) ?_
        refine hr_callV X kC6_186 dX6_mendChoice_88 (c_X6_mended cA hR hI a b t ha hb ht 1) hR.1 rfl rfl rfl rfl (Nat.le_of_ble_eq_true rfl) ⟨⟨(Nat.le_of_ble_eq_true rfl), (Nat.le_of_ble_eq_true rfl)⟩, (Nat.le_of_ble_eq_true rfl), (Nat.le_of_ble_eq_true rfl)⟩ (fun v M88 hp => ?_)
        obtain ⟨rfl, rfl⟩ := hp
        rw [hq]
        refine hr_iload X dX6_mendChoice_91 rfl ?_
        refine hr_iconst (0) X dX6_mendChoice_93 (by decide) ?_
        refine hr_callV X kC6_190 dX6_mendChoice_94 (c_X6_mend cA hR hI a (sp_e a u t) ha ha4 he (signs) (0) (sp_okR_of hqs.2.2 (Or.inr (Or.inl ⟨rfl, hare⟩)))) hR.1 rfl rfl rfl rfl (Nat.le_of_ble_eq_true rfl) ⟨⟨(Nat.le_of_ble_eq_true rfl), (Nat.le_of_ble_eq_true rfl)⟩, (Nat.le_of_ble_eq_true rfl), (Nat.le_of_ble_eq_true rfl)⟩ (fun v M94 hp94 => ?_)
        obtain ⟨ta1, hR, rfl, hta1⟩ := hp94
        exact hr_iret X dX6_mendChoice_97 (Nat.le_of_ble_eq_true rfl) (Nat.le_of_ble_eq_true rfl) ⟨_, _, by rw [e1, e2, e3, hE]; exact hR, rfl, by rw [hta1]; exact mm_up_s.trans (by rfl), fun _ => by rw [e1, e2, e3, hE]⟩
      · rw [hm_bz] at c76
        rw [if_neg c76]
        refine hr_iconst (0) X dX6_mendChoice_79 (by decide) ?_
        exact hr_iret X dX6_mendChoice_80 (Nat.le_of_ble_eq_true rfl) (Nat.le_of_ble_eq_true rfl) ⟨_, _, hR, rfl, mm_up_s, fun q => absurd q c76⟩
    refine hr_aload_n X dX6_mendChoice_39 rfl (Or.inr ⟨_, rfl⟩) ?_
    refine hr_aload_n X dX6_mendChoice_40 rfl (Or.inr ⟨_, rfl⟩) ?_
    refine hr_iload_n X dX6_mendChoice_41 rfl ?_
    refine hr_iload_n X dX6_mendChoice_42 rfl ?_
    refine hr_iload_n X dX6_mendChoice_43 rfl ?_
    refine hr_callV X kC6_183 dX6_mendChoice_44 (c_X6_isNamed cA hR hI s v t) hR.1 rfl rfl rfl rfl (Nat.le_of_ble_eq_true rfl) ⟨⟨(Nat.le_of_ble_eq_true rfl), (Nat.le_of_ble_eq_true rfl)⟩, (Nat.le_of_ble_eq_true rfl), (Nat.le_of_ble_eq_true rfl)⟩ (fun v M44 hp => ?_)
    obtain ⟨rfl, rfl⟩ := hp
    refine hr_if_ne 54 X dX6_mendChoice_47 (by decide) (fun c47 => ?_) (fun c47 => ?_)
    · rw [hm_bI_ne] at c47
      replace c47 : sp_nmd sg s v t = true := c47
      refine hr_iload X dX6_mendChoice_54 rfl ?_
      refine hr_if_ne 63 X dX6_mendChoice_56 (by decide) (fun c56 => ?_) (fun c56 => ?_)
      · rw [hm_bI_ne] at c56
        refine hr_iload X dX6_mendChoice_63 rfl ?_
        refine hr_if_eq 72 X dX6_mendChoice_65 (by decide) (fun c65 => ?_) (fun c65 => ?_)
        · rw [hm_bI_eq] at c65
          rw [c47, Bool.true_and] at c65
          have hz : sp_thMen sg s v t (sp_in signs 0 31) 1 = 3 := by rw [sp_thMen, if_pos c47, if_pos c56, c65]; rfl
          refine hr_iconst (3) X dX6_mendChoice_72 (by decide) ?_
          exact hr_eq (by rw [hz] <;> rfl) J73
        · rw [hm_bI_ne] at c65
          rw [c47, Bool.true_and] at c65
          have hz : sp_thMen sg s v t (sp_in signs 0 31) 1 = 0 := by rw [sp_thMen, if_pos c47, if_pos c56, c65]; rfl
          refine hr_iconst (0) X dX6_mendChoice_68 (by decide) ?_
          refine hr_goto 73 X dX6_mendChoice_69 (by decide) ?_
          exact hr_eq (by rw [hz] <;> rfl) J73
      · rw [hm_bI_eq] at c56
        have hz : sp_thMen sg s v t (sp_in signs 0 31) 1 = 2 := by simp [sp_thMen, c47, c56]
        refine hr_iconst (2) X dX6_mendChoice_59 (by decide) ?_
        refine hr_goto 73 X dX6_mendChoice_60 (by decide) ?_
        exact hr_eq (by rw [hz] <;> rfl) J73
    · rw [hm_bI_eq] at c47
      replace c47 : sp_nmd sg s v t = false := c47
      have hz : sp_thMen sg s v t (sp_in signs 0 31) 1 = 1 := by simp [sp_thMen, c47]
      refine hr_iconst (1) X dX6_mendChoice_50 (by decide) ?_
      refine hr_goto 73 X dX6_mendChoice_51 (by decide) ?_
      exact hr_eq (by rw [hz] <;> rfl) J73
  refine hr_aload_n X dX6_mendChoice_10 rfl (Or.inr ⟨_, rfl⟩) ?_
  refine hr_iload_n X dX6_mendChoice_11 rfl ?_
  refine hr_iload_n X dX6_mendChoice_12 rfl ?_
  refine hr_iload_n X dX6_mendChoice_13 rfl ?_
  refine hr_callV X kC6_183 dX6_mendChoice_14 (c_X6_isNamed cA hR hI s v t) hR.1 rfl rfl rfl rfl (Nat.le_of_ble_eq_true rfl) ⟨⟨(Nat.le_of_ble_eq_true rfl), (Nat.le_of_ble_eq_true rfl)⟩, (Nat.le_of_ble_eq_true rfl), (Nat.le_of_ble_eq_true rfl)⟩ (fun v M14 hp => ?_)
  obtain ⟨rfl, rfl⟩ := hp
  refine hr_if_eq 36 X dX6_mendChoice_17 (by decide) (fun c17 => ?_) (fun c17 => ?_)
  · rw [hm_bI_eq] at c17
    have hz : (sp_nmd sg s v t && (sp_men sg (nN s) (nN v) (nN t) 1).isSome) = false := by rw [show sp_nmd sg s v t = false from c17]; rfl
    refine hr_iconst (0) X dX6_mendChoice_36 (by decide) ?_
    exact hr_eq (by rw [hz] <;> rfl) J37
  · rw [hm_bI_ne] at c17
    obtain ⟨a, b, t, ha, ha4, hb, ht, rfl, rfl, rfl, e1, e2, e3⟩ := sp_nmd_nat hI c17
    have hb16 := hb.1
    refine hr_aload_n X dX6_mendChoice_20 rfl (Or.inr ⟨_, rfl⟩) ?_
    refine hr_iload_n X dX6_mendChoice_21 rfl ?_
    refine hr_iload_n X dX6_mendChoice_22 rfl ?_
    refine hr_iload_n X dX6_mendChoice_23 rfl ?_
    refine hr_iconst (1) X dX6_mendChoice_24 (by decide) ?_
    refine hr_callV X kC6_186 dX6_mendChoice_25 (c_X6_mended cA hR hI a b t ha hb ht 1) hR.1 rfl rfl rfl rfl (Nat.le_of_ble_eq_true rfl) ⟨⟨(Nat.le_of_ble_eq_true rfl), (Nat.le_of_ble_eq_true rfl)⟩, (Nat.le_of_ble_eq_true rfl), (Nat.le_of_ble_eq_true rfl)⟩ (fun v M25 hp => ?_)
    obtain ⟨rfl, rfl⟩ := hp
    refine hr_iconst (-1) X dX6_mendChoice_28 (by decide) ?_
    refine hr_icmp_eq 36 X dX6_mendChoice_29 (by decide) (fun c29 => ?_) (fun c29 => ?_)
    · have hq : sp_men sg a b t 1 = none := Option.map_eq_none_iff.mp (sp_o_none (fun u h => by
        obtain ⟨w, h1, rfl⟩ := Option.map_eq_some_iff.mp h
        have := (sp_men_some hI ha hb h1).2.1.1
        simp only [sp_e]
        omega) c29)
      have hz : (sp_nmd sg (nI a) (nI b) (nI t) && (sp_men sg (nN (nI a)) (nN (nI b)) (nN (nI t)) 1).isSome) = false := by rw [e1, e2, e3, hq]; simp
      refine hr_iconst (0) X dX6_mendChoice_36 (by decide) ?_
      exact hr_eq (by rw [hz] <;> rfl) J37
    · obtain ⟨w, hw⟩ := sp_o_some c29
      obtain ⟨u, hq, -⟩ := Option.map_eq_some_iff.mp hw
      have hqs := sp_men_some hI ha hb hq
      have hu16 := hqs.2.1.1
      have hz : (sp_nmd sg (nI a) (nI b) (nI t) && (sp_men sg (nN (nI a)) (nN (nI b)) (nN (nI t)) 1).isSome) = true := by rw [e1, e2, e3, hq, show sp_nmd sg (nI a) (nI b) (nI t) = true from c17]; rfl
      refine hr_iconst (1) X dX6_mendChoice_32 (by decide) ?_
      refine hr_goto 37 X dX6_mendChoice_33 (by decide) ?_
      exact hr_eq (by rw [hz] <;> rfl) J37
