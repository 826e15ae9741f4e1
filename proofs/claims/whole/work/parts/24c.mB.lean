theorem sp_thSet_0 {sg : mm_S} {g s t : Int32} {are : Bool} {more : Int32} (h : sp_thSet sg g s t are more = 0) : sp_name sg g s t = true ∧ are = true ∧ sp_canRev sg (nN g) (nN s) more = true := by
  unfold sp_thSet at h
  by_cases h1 : sp_name sg g s t = true
  · rw [if_pos h1] at h
    by_cases h2 : are = true
    · rw [if_pos h2] at h
      by_cases h3 : sp_canRev sg (nN g) (nN s) more = true
      · exact ⟨h1, h2, h3⟩
      · rw [if_neg h3] at h
        exact absurd h (by decide)
    · rw [if_neg h2] at h
      exact absurd h (by decide)
  · rw [if_neg h1] at h
    exact absurd h (by decide)
set_option maxHeartbeats 4000000 in
set_option maxRecDepth 100000 in
theorem c_X6_setNumber (cA : Nat → ClassId) {sg ta : mm_S} {ad : Nat → Nat} {mo : Nat} {M0 M : hm_M} (hR : mm_R cA sg ta ad mo M0 M) (hI : sp_I sg) (g s t points value slack : Int32) : hm_Met cA yX6_setNumber cX6_setNumber 9 (some .int) r_X6_setNumber [.ref mo, .int g, .int s, .int t, .int points, .int value, .int slack] M (mm_P cA ad mo M0 (sp_thSet sg g s t (sp_areN points value slack) (2)) (sg 5 (nN s)) (if sp_thSet sg g s t (sp_areN points value slack) (2) = 0 then sp_rev sg (nN g) (nN s) (nN t) (0) (points) (value) (slack) else sg)) := by
  refine hm_met 2 (by decide +kernel) (fun w h => by simp only [List.mem_cons, List.not_mem_nil, or_false] at h; rcases h with rfl | rfl | rfl | rfl | rfl | rfl | rfl <;> rfl) rfl (fun C X => ?_)
  show hm_W C 0 0 _ M 0 [some (.ref mo), some (.int g), some (.int s), some (.int t), some (.int points), some (.int value), some (.int slack), none, none] []
  have J41 : hm_W C 0 0 (hm_T C (mm_P cA ad mo M0 (sp_thSet sg g s t (sp_areN points value slack) (2)) (sg 5 (nN s)) (if sp_thSet sg g s t (sp_areN points value slack) (2) = 0 then sp_rev sg (nN g) (nN s) (nN t) (0) (points) (value) (slack) else sg)) r_X6_setNumber.cells r_X6_setNumber.slots) M 41 [some (.ref mo), some (.int g), some (.int s), some (.int t), some (.int points), some (.int value), some (.int slack), none, none] [.int (hm_bI (sp_areN points value slack))] := by
    refine hr_istore X dX6_setNumber_41 (Nat.le_of_ble_eq_true rfl) ?_
    have J73 : hm_W C 0 0 (hm_T C (mm_P cA ad mo M0 (sp_thSet sg g s t (sp_areN points value slack) (2)) (sg 5 (nN s)) (if sp_thSet sg g s t (sp_areN points value slack) (2) = 0 then sp_rev sg (nN g) (nN s) (nN t) (0) (points) (value) (slack) else sg)) r_X6_setNumber.cells r_X6_setNumber.slots) M 73 [some (.ref mo), some (.int g), some (.int s), some (.int t), some (.int points), some (.int value), some (.int slack), some (.int (hm_bI (sp_areN points value slack))), none] [.int (hm_bI (sp_name sg g s t && (sp_areN points value slack && sp_canRev sg (nN g) (nN s) (2))))] := by
      refine hr_istore X dX6_setNumber_73 (Nat.le_of_ble_eq_true rfl) ?_
      have J109 : hm_W C 0 0 (hm_T C (mm_P cA ad mo M0 (sp_thSet sg g s t (sp_areN points value slack) (2)) (sg 5 (nN s)) (if sp_thSet sg g s t (sp_areN points value slack) (2) = 0 then sp_rev sg (nN g) (nN s) (nN t) (0) (points) (value) (slack) else sg)) r_X6_setNumber.cells r_X6_setNumber.slots) M 109 [some (.ref mo), some (.int g), some (.int s), some (.int t), some (.int points), some (.int value), some (.int slack), some (.int (hm_bI (sp_areN points value slack))), some (.int (hm_bI (sp_name sg g s t && (sp_areN points value slack && sp_canRev sg (nN g) (nN s) (2)))))] [.int (sp_thSet sg g s t (sp_areN points value slack) (2)), .ref mo] := by
        refine hr_callV X kC6_120 dX6_setNumber_109 (c_X6_refused cA hR (sp_thSet sg g s t (sp_areN points value slack) (2))) hR.1 rfl rfl rfl rfl (Nat.le_of_ble_eq_true rfl) ⟨⟨(Nat.le_of_ble_eq_true rfl), (Nat.le_of_ble_eq_true rfl)⟩, (Nat.le_of_ble_eq_true rfl), (Nat.le_of_ble_eq_true rfl)⟩ (fun v M109 hp109 => ?_)
        obtain ⟨hR, rfl⟩ := hp109
        refine hr_if_eq 117 X dX6_setNumber_112 (by decide) (fun c112 => ?_) (fun c112 => ?_)
        · rw [hm_bz] at c112
          rw [if_pos c112]
          obtain ⟨hn, ha, hc⟩ := sp_thSet_0 c112
          obtain ⟨g, s, t, hg, hs, hs4, ht, rfl, rfl, rfl⟩ := sp_name_nat hI hn
          have e1 : nN (nI g) = g := nI_clamp (by omega)
          have e2 : nN (nI s) = s := nI_clamp (by omega)
          have e3 : nN (nI t) = t := nI_clamp (by omega)
          rw [e1, e2] at hc
          simp only [sp_canRev, Bool.and_eq_true, Bool.not_eq_true', decide_eq_false_iff_not] at hc
          obtain ⟨m, hm1, hm16, hm, -⟩ := sp_made hI hs hc.1
          refine hr_aload_n X dX6_setNumber_117 rfl (Or.inr ⟨_, rfl⟩) ?_
          refine hr_iload_n X dX6_setNumber_118 rfl ?_
          refine hr_iload_n X dX6_setNumber_119 rfl ?_
          refine hr_iload_n X dX6_setNumber_120 rfl ?_
          refine hr_iconst (0) X dX6_setNumber_121 (by decide) ?_
          refine hr_iload X dX6_setNumber_122 rfl ?_
          refine hr_iload X dX6_setNumber_124 rfl ?_
          refine hr_iload X dX6_setNumber_126 rfl ?_
          refine hr_callV X kC6_139 dX6_setNumber_128 (c_X6_revise cA hR g s t m hg hs4 ht hm hm16 (0) (points) (value) (slack)) hR.1 rfl rfl rfl rfl (Nat.le_of_ble_eq_true rfl) ⟨⟨(Nat.le_of_ble_eq_true rfl), (Nat.le_of_ble_eq_true rfl)⟩, (Nat.le_of_ble_eq_true rfl), (Nat.le_of_ble_eq_true rfl)⟩ (fun v M128 hp128 => ?_)
          obtain ⟨hR, rfl⟩ := hp128
          exact hr_iret X dX6_setNumber_131 (Nat.le_of_ble_eq_true rfl) (Nat.le_of_ble_eq_true rfl) ⟨_, _, by rw [e1, e2, e3]; exact hR, rfl, mm_up_s, fun _ => by rw [e2]⟩
        · rw [hm_bz] at c112
          rw [if_neg c112]
          refine hr_iconst (0) X dX6_setNumber_115 (by decide) ?_
          exact hr_iret X dX6_setNumber_116 (Nat.le_of_ble_eq_true rfl) (Nat.le_of_ble_eq_true rfl) ⟨_, _, hR, rfl, mm_up_s, fun q => absurd q c112⟩
      refine hr_aload_n X dX6_setNumber_75 rfl (Or.inr ⟨_, rfl⟩) ?_
      refine hr_aload_n X dX6_setNumber_76 rfl (Or.inr ⟨_, rfl⟩) ?_
      refine hr_iload_n X dX6_setNumber_77 rfl ?_
      refine hr_iload_n X dX6_setNumber_78 rfl ?_
      refine hr_iload_n X dX6_setNumber_79 rfl ?_
      refine hr_callV X kC6_133 dX6_setNumber_80 (c_X6_canName cA hR g s t) hR.1 rfl rfl rfl rfl (Nat.le_of_ble_eq_true rfl) ⟨⟨(Nat.le_of_ble_eq_true rfl), (Nat.le_of_ble_eq_true rfl)⟩, (Nat.le_of_ble_eq_true rfl), (Nat.le_of_ble_eq_true rfl)⟩ (fun v M80 hp => ?_)
      obtain ⟨rfl, rfl⟩ := hp
      refine hr_if_ne 90 X dX6_setNumber_83 (by decide) (fun c83 => ?_) (fun c83 => ?_)
      · rw [hm_bI_ne] at c83
        refine hr_iload X dX6_setNumber_90 rfl ?_
        refine hr_if_ne 99 X dX6_setNumber_92 (by decide) (fun c92 => ?_) (fun c92 => ?_)
        · rw [hm_bI_ne] at c92
          refine hr_iload X dX6_setNumber_99 rfl ?_
          refine hr_if_eq 108 X dX6_setNumber_101 (by decide) (fun c101 => ?_) (fun c101 => ?_)
          · rw [hm_bI_eq] at c101
            rw [c83, c92] at c101
            have hz : sp_thSet sg g s t (sp_areN points value slack) (2) = 3 := by simp only [Bool.true_and] at c101; simp [sp_thSet, c83, c92, c101]
            refine hr_iconst (3) X dX6_setNumber_108 (by decide) ?_
            exact hr_eq (by rw [hz] <;> rfl) J109
          · rw [hm_bI_ne] at c101
            rw [c83, c92] at c101
            have hz : sp_thSet sg g s t (sp_areN points value slack) (2) = 0 := by simp only [Bool.true_and] at c101; simp [sp_thSet, c83, c92, c101]
            refine hr_iconst (0) X dX6_setNumber_104 (by decide) ?_
            refine hr_goto 109 X dX6_setNumber_105 (by decide) ?_
            exact hr_eq (by rw [hz] <;> rfl) J109
        · rw [hm_bI_eq] at c92
          have hz : sp_thSet sg g s t (sp_areN points value slack) (2) = 2 := by simp [sp_thSet, c83, c92]
          refine hr_iconst (2) X dX6_setNumber_95 (by decide) ?_
          refine hr_goto 109 X dX6_setNumber_96 (by decide) ?_
          exact hr_eq (by rw [hz] <;> rfl) J109
      · rw [hm_bI_eq] at c83
        have hz : sp_thSet sg g s t (sp_areN points value slack) (2) = 1 := by simp [sp_thSet, c83]
        refine hr_iconst (1) X dX6_setNumber_86 (by decide) ?_
        refine hr_goto 109 X dX6_setNumber_87 (by decide) ?_
        exact hr_eq (by rw [hz] <;> rfl) J109
    refine hr_aload_n X dX6_setNumber_43 rfl (Or.inr ⟨_, rfl⟩) ?_
    refine hr_iload_n X dX6_setNumber_44 rfl ?_
    refine hr_iload_n X dX6_setNumber_45 rfl ?_
    refine hr_iload_n X dX6_setNumber_46 rfl ?_
    refine hr_callV X kC6_133 dX6_setNumber_47 (c_X6_canName cA hR g s t) hR.1 rfl rfl rfl rfl (Nat.le_of_ble_eq_true rfl) ⟨⟨(Nat.le_of_ble_eq_true rfl), (Nat.le_of_ble_eq_true rfl)⟩, (Nat.le_of_ble_eq_true rfl), (Nat.le_of_ble_eq_true rfl)⟩ (fun v M47 hp => ?_)
    obtain ⟨rfl, rfl⟩ := hp
    refine hr_if_eq 72 X dX6_setNumber_50 (by decide) (fun c50 => ?_) (fun c50 => ?_)
    · rw [hm_bI_eq] at c50
      have hz : (sp_name sg g s t && (sp_areN points value slack && sp_canRev sg (nN g) (nN s) (2))) = false := by simp [c50]
      refine hr_iconst (0) X dX6_setNumber_72 (by decide) ?_
      exact hr_eq (by rw [hz] <;> rfl) J73
    · rw [hm_bI_ne] at c50
      refine hr_iload X dX6_setNumber_53 rfl ?_
      refine hr_if_eq 72 X dX6_setNumber_55 (by decide) (fun c55 => ?_) (fun c55 => ?_)
      · rw [hm_bI_eq] at c55
        have hz : (sp_name sg g s t && (sp_areN points value slack && sp_canRev sg (nN g) (nN s) (2))) = false := by simp [c55]
        refine hr_iconst (0) X dX6_setNumber_72 (by decide) ?_
        exact hr_eq (by rw [hz] <;> rfl) J73
      · rw [hm_bI_ne] at c55
        obtain ⟨g, s, t, hg, hs, hs4, ht, rfl, rfl, rfl⟩ := sp_name_nat hI c50
        have e1 : nN (nI g) = g := nI_clamp (by omega)
        have e2 : nN (nI s) = s := nI_clamp (by omega)
        refine hr_aload_n X dX6_setNumber_58 rfl (Or.inr ⟨_, rfl⟩) ?_
        refine hr_iload_n X dX6_setNumber_59 rfl ?_
        refine hr_iload_n X dX6_setNumber_60 rfl ?_
        refine hr_iconst (2) X dX6_setNumber_61 (by decide) ?_
        refine hr_callV X kC6_136 dX6_setNumber_62 (c_X6_canRevise cA hR s g hs4 hg (2)) hR.1 rfl rfl rfl rfl (Nat.le_of_ble_eq_true rfl) ⟨⟨(Nat.le_of_ble_eq_true rfl), (Nat.le_of_ble_eq_true rfl)⟩, (Nat.le_of_ble_eq_true rfl), (Nat.le_of_ble_eq_true rfl)⟩ (fun v M62 hp => ?_)
        obtain ⟨rfl, rfl⟩ := hp
        refine hr_if_eq 72 X dX6_setNumber_65 (by decide) (fun c65 => ?_) (fun c65 => ?_)
        · rw [hm_bI_eq] at c65
          have hz : (sp_name sg (nI g) (nI s) (nI t) && (sp_areN points value slack && sp_canRev sg (nN (nI g)) (nN (nI s)) (2))) = false := by rw [e1, e2, show sp_canRev sg g s (2) = false from c65]; simp
          refine hr_iconst (0) X dX6_setNumber_72 (by decide) ?_
          exact hr_eq (by rw [hz] <;> rfl) J73
        · rw [hm_bI_ne] at c65
          have hz : (sp_name sg (nI g) (nI s) (nI t) && (sp_areN points value slack && sp_canRev sg (nN (nI g)) (nN (nI s)) (2))) = true := by rw [e1, e2, show sp_canRev sg g s (2) = true from c65, c50, c55]; rfl
          refine hr_iconst (1) X dX6_setNumber_68 (by decide) ?_
          refine hr_goto 73 X dX6_setNumber_69 (by decide) ?_
          exact hr_eq (by rw [hz] <;> rfl) J73
  refine hr_iload X dX6_setNumber_0 rfl ?_
  refine hr_iconst (1) X dX6_setNumber_2 (by decide) ?_
  refine hr_bipush (10) X dX6_setNumber_3 (by decide) ?_
  refine hr_callS X kC6_87 dX6_setNumber_5 (c_X6_in cA (M := M) points 1 10) rfl rfl rfl (Nat.le_of_ble_eq_true rfl) ⟨⟨(Nat.le_of_ble_eq_true rfl), (Nat.le_of_ble_eq_true rfl)⟩, (Nat.le_of_ble_eq_true rfl), (Nat.le_of_ble_eq_true rfl)⟩ (fun v M5 hp => ?_)
  obtain ⟨rfl, rfl⟩ := hp
  refine hr_if_eq 40 X dX6_setNumber_8 (by decide) (fun c8 => ?_) (fun c8 => ?_)
  · rw [hm_bI_eq] at c8
    have hz : (sp_areN points value slack) = false := by simp [sp_areN, c8]
    refine hr_iconst (0) X dX6_setNumber_40 (by decide) ?_
    exact hr_eq (by rw [hz] <;> rfl) J41
  · rw [hm_bI_ne] at c8
    refine hr_iload X dX6_setNumber_11 rfl ?_
    refine hr_sipush (-1000) X dX6_setNumber_13 (by decide) ?_
    refine hr_sipush (1000) X dX6_setNumber_16 (by decide) ?_
    refine hr_callS X kC6_87 dX6_setNumber_19 (c_X6_in cA (M := M) value (-1000) 1000) rfl rfl rfl (Nat.le_of_ble_eq_true rfl) ⟨⟨(Nat.le_of_ble_eq_true rfl), (Nat.le_of_ble_eq_true rfl)⟩, (Nat.le_of_ble_eq_true rfl), (Nat.le_of_ble_eq_true rfl)⟩ (fun v M19 hp => ?_)
    obtain ⟨rfl, rfl⟩ := hp
    refine hr_if_eq 40 X dX6_setNumber_22 (by decide) (fun c22 => ?_) (fun c22 => ?_)
    · rw [hm_bI_eq] at c22
      have hz : (sp_areN points value slack) = false := by simp [sp_areN, c22]
      refine hr_iconst (0) X dX6_setNumber_40 (by decide) ?_
      exact hr_eq (by rw [hz] <;> rfl) J41
    · rw [hm_bI_ne] at c22
      refine hr_iload X dX6_setNumber_25 rfl ?_
      refine hr_iconst (0) X dX6_setNumber_27 (by decide) ?_
      refine hr_bipush (100) X dX6_setNumber_28 (by decide) ?_
      refine hr_callS X kC6_87 dX6_setNumber_30 (c_X6_in cA (M := M) slack 0 100) rfl rfl rfl (Nat.le_of_ble_eq_true rfl) ⟨⟨(Nat.le_of_ble_eq_true rfl), (Nat.le_of_ble_eq_true rfl)⟩, (Nat.le_of_ble_eq_true rfl), (Nat.le_of_ble_eq_true rfl)⟩ (fun v M30 hp => ?_)
      obtain ⟨rfl, rfl⟩ := hp
      refine hr_if_eq 40 X dX6_setNumber_33 (by decide) (fun c33 => ?_) (fun c33 => ?_)
      · rw [hm_bI_eq] at c33
        have hz : (sp_areN points value slack) = false := by simp [sp_areN, c33]
        refine hr_iconst (0) X dX6_setNumber_40 (by decide) ?_
        exact hr_eq (by rw [hz] <;> rfl) J41
      · rw [hm_bI_ne] at c33
        have hz : (sp_areN points value slack) = true := by simp [sp_areN, *]
        refine hr_iconst (1) X dX6_setNumber_36 (by decide) ?_
        refine hr_goto 41 X dX6_setNumber_37 (by decide) ?_
        exact hr_eq (by rw [hz] <;> rfl) J41
set_option maxHeartbeats 4000000 in
set_option maxRecDepth 100000 in
theorem c_X6_setChoice (cA : Nat → ClassId) {sg ta : mm_S} {ad : Nat → Nat} {mo : Nat} {M0 M : hm_M} (hR : mm_R cA sg ta ad mo M0 M) (hI : sp_I sg) (g s t points signs : Int32) : hm_Met cA yX6_setChoice cX6_setChoice 8 (some .int) r_X6_setChoice [.ref mo, .int g, .int s, .int t, .int points, .int signs] M (mm_P cA ad mo M0 (sp_thSet sg g s t (sp_areC points signs) (1)) (sg 5 (nN s)) (if sp_thSet sg g s t (sp_areC points signs) (1) = 0 then sp_rev sg (nN g) (nN s) (nN t) (1) (points) (signs) (0) else sg)) := by
  refine hm_met 2 (by decide +kernel) (fun w h => by simp only [List.mem_cons, List.not_mem_nil, or_false] at h; rcases h with rfl | rfl | rfl | rfl | rfl | rfl <;> rfl) rfl (fun C X => ?_)
  show hm_W C 0 0 _ M 0 [some (.ref mo), some (.int g), some (.int s), some (.int t), some (.int points), some (.int signs), none, none] []
  have J27 : hm_W C 0 0 (hm_T C (mm_P cA ad mo M0 (sp_thSet sg g s t (sp_areC points signs) (1)) (sg 5 (nN s)) (if sp_thSet sg g s t (sp_areC points signs) (1) = 0 then sp_rev sg (nN g) (nN s) (nN t) (1) (points) (signs) (0) else sg)) r_X6_setChoice.cells r_X6_setChoice.slots) M 27 [some (.ref mo), some (.int g), some (.int s), some (.int t), some (.int points), some (.int signs), none, none] [.int (hm_bI (sp_areC points signs))] := by
    refine hr_istore X dX6_setChoice_27 (Nat.le_of_ble_eq_true rfl) ?_
    have J59 : hm_W C 0 0 (hm_T C (mm_P cA ad mo M0 (sp_thSet sg g s t (sp_areC points signs) (1)) (sg 5 (nN s)) (if sp_thSet sg g s t (sp_areC points signs) (1) = 0 then sp_rev sg (nN g) (nN s) (nN t) (1) (points) (signs) (0) else sg)) r_X6_setChoice.cells r_X6_setChoice.slots) M 59 [some (.ref mo), some (.int g), some (.int s), some (.int t), some (.int points), some (.int signs), some (.int (hm_bI (sp_areC points signs))), none] [.int (hm_bI (sp_name sg g s t && (sp_areC points signs && sp_canRev sg (nN g) (nN s) (1))))] := by
      refine hr_istore X dX6_setChoice_59 (Nat.le_of_ble_eq_true rfl) ?_
      have J95 : hm_W C 0 0 (hm_T C (mm_P cA ad mo M0 (sp_thSet sg g s t (sp_areC points signs) (1)) (sg 5 (nN s)) (if sp_thSet sg g s t (sp_areC points signs) (1) = 0 then sp_rev sg (nN g) (nN s) (nN t) (1) (points) (signs) (0) else sg)) r_X6_setChoice.cells r_X6_setChoice.slots) M 95 [some (.ref mo), some (.int g), some (.int s), some (.int t), some (.int points), some (.int signs), some (.int (hm_bI (sp_areC points signs))), some (.int (hm_bI (sp_name sg g s t && (sp_areC points signs && sp_canRev sg (nN g) (nN s) (1)))))] [.int (sp_thSet sg g s t (sp_areC points signs) (1)), .ref mo] := by
        refine hr_callV X kC6_120 dX6_setChoice_95 (c_X6_refused cA hR (sp_thSet sg g s t (sp_areC points signs) (1))) hR.1 rfl rfl rfl rfl (Nat.le_of_ble_eq_true rfl) ⟨⟨(Nat.le_of_ble_eq_true rfl), (Nat.le_of_ble_eq_true rfl)⟩, (Nat.le_of_ble_eq_true rfl), (Nat.le_of_ble_eq_true rfl)⟩ (fun v M95 hp95 => ?_)
        obtain ⟨hR, rfl⟩ := hp95
        refine hr_if_eq 103 X dX6_setChoice_98 (by decide) (fun c98 => ?_) (fun c98 => ?_)
        · rw [hm_bz] at c98
          rw [if_pos c98]
          obtain ⟨hn, ha, hc⟩ := sp_thSet_0 c98
          obtain ⟨g, s, t, hg, hs, hs4, ht, rfl, rfl, rfl⟩ := sp_name_nat hI hn
          have e1 : nN (nI g) = g := nI_clamp (by omega)
          have e2 : nN (nI s) = s := nI_clamp (by omega)
          have e3 : nN (nI t) = t := nI_clamp (by omega)
          rw [e1, e2] at hc
          simp only [sp_canRev, Bool.and_eq_true, Bool.not_eq_true', decide_eq_false_iff_not] at hc
          obtain ⟨m, hm1, hm16, hm, -⟩ := sp_made hI hs hc.1
          refine hr_aload_n X dX6_setChoice_103 rfl (Or.inr ⟨_, rfl⟩) ?_
          refine hr_iload_n X dX6_setChoice_104 rfl ?_
          refine hr_iload_n X dX6_setChoice_105 rfl ?_
          refine hr_iload_n X dX6_setChoice_106 rfl ?_
          refine hr_iconst (1) X dX6_setChoice_107 (by decide) ?_
          refine hr_iload X dX6_setChoice_108 rfl ?_
          refine hr_iload X dX6_setChoice_110 rfl ?_
          refine hr_iconst (0) X dX6_setChoice_112 (by decide) ?_
          refine hr_callV X kC6_139 dX6_setChoice_113 (c_X6_revise cA hR g s t m hg hs4 ht hm hm16 (1) (points) (signs) (0)) hR.1 rfl rfl rfl rfl (Nat.le_of_ble_eq_true rfl) ⟨⟨(Nat.le_of_ble_eq_true rfl), (Nat.le_of_ble_eq_true rfl)⟩, (Nat.le_of_ble_eq_true rfl), (Nat.le_of_ble_eq_true rfl)⟩ (fun v M113 hp113 => ?_)
          obtain ⟨hR, rfl⟩ := hp113
          exact hr_iret X dX6_setChoice_116 (Nat.le_of_ble_eq_true rfl) (Nat.le_of_ble_eq_true rfl) ⟨_, _, by rw [e1, e2, e3]; exact hR, rfl, mm_up_s, fun _ => by rw [e2]⟩
        · rw [hm_bz] at c98
          rw [if_neg c98]
          refine hr_iconst (0) X dX6_setChoice_101 (by decide) ?_
          exact hr_iret X dX6_setChoice_102 (Nat.le_of_ble_eq_true rfl) (Nat.le_of_ble_eq_true rfl) ⟨_, _, hR, rfl, mm_up_s, fun q => absurd q c98⟩
      refine hr_aload_n X dX6_setChoice_61 rfl (Or.inr ⟨_, rfl⟩) ?_
      refine hr_aload_n X dX6_setChoice_62 rfl (Or.inr ⟨_, rfl⟩) ?_
      refine hr_iload_n X dX6_setChoice_63 rfl ?_
      refine hr_iload_n X dX6_setChoice_64 rfl ?_
      refine hr_iload_n X dX6_setChoice_65 rfl ?_
      refine hr_callV X kC6_133 dX6_setChoice_66 (c_X6_canName cA hR g s t) hR.1 rfl rfl rfl rfl (Nat.le_of_ble_eq_true rfl) ⟨⟨(Nat.le_of_ble_eq_true rfl), (Nat.le_of_ble_eq_true rfl)⟩, (Nat.le_of_ble_eq_true rfl), (Nat.le_of_ble_eq_true rfl)⟩ (fun v M66 hp => ?_)
      obtain ⟨rfl, rfl⟩ := hp
      refine hr_if_ne 76 X dX6_setChoice_69 (by decide) (fun c69 => ?_) (fun c69 => ?_)
      · rw [hm_bI_ne] at c69
        refine hr_iload X dX6_setChoice_76 rfl ?_
        refine hr_if_ne 85 X dX6_setChoice_78 (by decide) (fun c78 => ?_) (fun c78 => ?_)
        · rw [hm_bI_ne] at c78
          refine hr_iload X dX6_setChoice_85 rfl ?_
          refine hr_if_eq 94 X dX6_setChoice_87 (by decide) (fun c87 => ?_) (fun c87 => ?_)
          · rw [hm_bI_eq] at c87
            rw [c69, c78] at c87
            have hz : sp_thSet sg g s t (sp_areC points signs) (1) = 3 := by simp only [Bool.true_and] at c87; simp [sp_thSet, c69, c78, c87]
            refine hr_iconst (3) X dX6_setChoice_94 (by decide) ?_
            exact hr_eq (by rw [hz] <;> rfl) J95
          · rw [hm_bI_ne] at c87
            rw [c69, c78] at c87
            have hz : sp_thSet sg g s t (sp_areC points signs) (1) = 0 := by simp only [Bool.true_and] at c87; simp [sp_thSet, c69, c78, c87]
            refine hr_iconst (0) X dX6_setChoice_90 (by decide) ?_
            refine hr_goto 95 X dX6_setChoice_91 (by decide) ?_
            exact hr_eq (by rw [hz] <;> rfl) J95
        · rw [hm_bI_eq] at c78
          have hz : sp_thSet sg g s t (sp_areC points signs) (1) = 2 := by simp [sp_thSet, c69, c78]
          refine hr_iconst (2) X dX6_setChoice_81 (by decide) ?_
          refine hr_goto 95 X dX6_setChoice_82 (by decide) ?_
          exact hr_eq (by rw [hz] <;> rfl) J95
      · rw [hm_bI_eq] at c69
        have hz : sp_thSet sg g s t (sp_areC points signs) (1) = 1 := by simp [sp_thSet, c69]
        refine hr_iconst (1) X dX6_setChoice_72 (by decide) ?_
        refine hr_goto 95 X dX6_setChoice_73 (by decide) ?_
        exact hr_eq (by rw [hz] <;> rfl) J95
    refine hr_aload_n X dX6_setChoice_29 rfl (Or.inr ⟨_, rfl⟩) ?_
    refine hr_iload_n X dX6_setChoice_30 rfl ?_
    refine hr_iload_n X dX6_setChoice_31 rfl ?_
    refine hr_iload_n X dX6_setChoice_32 rfl ?_
    refine hr_callV X kC6_133 dX6_setChoice_33 (c_X6_canName cA hR g s t) hR.1 rfl rfl rfl rfl (Nat.le_of_ble_eq_true rfl) ⟨⟨(Nat.le_of_ble_eq_true rfl), (Nat.le_of_ble_eq_true rfl)⟩, (Nat.le_of_ble_eq_true rfl), (Nat.le_of_ble_eq_true rfl)⟩ (fun v M33 hp => ?_)
    obtain ⟨rfl, rfl⟩ := hp
    refine hr_if_eq 58 X dX6_setChoice_36 (by decide) (fun c36 => ?_) (fun c36 => ?_)
    · rw [hm_bI_eq] at c36
      have hz : (sp_name sg g s t && (sp_areC points signs && sp_canRev sg (nN g) (nN s) (1))) = false := by simp [c36]
      refine hr_iconst (0) X dX6_setChoice_58 (by decide) ?_
      exact hr_eq (by rw [hz] <;> rfl) J59
    · rw [hm_bI_ne] at c36
      refine hr_iload X dX6_setChoice_39 rfl ?_
      refine hr_if_eq 58 X dX6_setChoice_41 (by decide) (fun c41 => ?_) (fun c41 => ?_)
      · rw [hm_bI_eq] at c41
        have hz : (sp_name sg g s t && (sp_areC points signs && sp_canRev sg (nN g) (nN s) (1))) = false := by simp [c41]
        refine hr_iconst (0) X dX6_setChoice_58 (by decide) ?_
        exact hr_eq (by rw [hz] <;> rfl) J59
      · rw [hm_bI_ne] at c41
        obtain ⟨g, s, t, hg, hs, hs4, ht, rfl, rfl, rfl⟩ := sp_name_nat hI c36
        have e1 : nN (nI g) = g := nI_clamp (by omega)
        have e2 : nN (nI s) = s := nI_clamp (by omega)
        refine hr_aload_n X dX6_setChoice_44 rfl (Or.inr ⟨_, rfl⟩) ?_
        refine hr_iload_n X dX6_setChoice_45 rfl ?_
        refine hr_iload_n X dX6_setChoice_46 rfl ?_
        refine hr_iconst (1) X dX6_setChoice_47 (by decide) ?_
        refine hr_callV X kC6_136 dX6_setChoice_48 (c_X6_canRevise cA hR s g hs4 hg (1)) hR.1 rfl rfl rfl rfl (Nat.le_of_ble_eq_true rfl) ⟨⟨(Nat.le_of_ble_eq_true rfl), (Nat.le_of_ble_eq_true rfl)⟩, (Nat.le_of_ble_eq_true rfl), (Nat.le_of_ble_eq_true rfl)⟩ (fun v M48 hp => ?_)
        obtain ⟨rfl, rfl⟩ := hp
        refine hr_if_eq 58 X dX6_setChoice_51 (by decide) (fun c51 => ?_) (fun c51 => ?_)
        · rw [hm_bI_eq] at c51
          have hz : (sp_name sg (nI g) (nI s) (nI t) && (sp_areC points signs && sp_canRev sg (nN (nI g)) (nN (nI s)) (1))) = false := by rw [e1, e2, show sp_canRev sg g s (1) = false from c51]; simp
          refine hr_iconst (0) X dX6_setChoice_58 (by decide) ?_
          exact hr_eq (by rw [hz] <;> rfl) J59
        · rw [hm_bI_ne] at c51
          have hz : (sp_name sg (nI g) (nI s) (nI t) && (sp_areC points signs && sp_canRev sg (nN (nI g)) (nN (nI s)) (1))) = true := by rw [e1, e2, show sp_canRev sg g s (1) = true from c51, c36, c41]; rfl
          refine hr_iconst (1) X dX6_setChoice_54 (by decide) ?_
          refine hr_goto 59 X dX6_setChoice_55 (by decide) ?_
          exact hr_eq (by rw [hz] <;> rfl) J59
  refine hr_iload X dX6_setChoice_0 rfl ?_
  refine hr_iconst (1) X dX6_setChoice_2 (by decide) ?_
  refine hr_bipush (10) X dX6_setChoice_3 (by decide) ?_
  refine hr_callS X kC6_87 dX6_setChoice_5 (c_X6_in cA (M := M) points 1 10) rfl rfl rfl (Nat.le_of_ble_eq_true rfl) ⟨⟨(Nat.le_of_ble_eq_true rfl), (Nat.le_of_ble_eq_true rfl)⟩, (Nat.le_of_ble_eq_true rfl), (Nat.le_of_ble_eq_true rfl)⟩ (fun v M5 hp => ?_)
  obtain ⟨rfl, rfl⟩ := hp
  refine hr_if_eq 26 X dX6_setChoice_8 (by decide) (fun c8 => ?_) (fun c8 => ?_)
  · rw [hm_bI_eq] at c8
    have hz : (sp_areC points signs) = false := by simp [sp_areC, c8]
    refine hr_iconst (0) X dX6_setChoice_26 (by decide) ?_
    exact hr_eq (by rw [hz] <;> rfl) J27
  · rw [hm_bI_ne] at c8
    refine hr_iload X dX6_setChoice_11 rfl ?_
    refine hr_iconst (0) X dX6_setChoice_13 (by decide) ?_
    refine hr_bipush (31) X dX6_setChoice_14 (by decide) ?_
    refine hr_callS X kC6_87 dX6_setChoice_16 (c_X6_in cA (M := M) signs 0 31) rfl rfl rfl (Nat.le_of_ble_eq_true rfl) ⟨⟨(Nat.le_of_ble_eq_true rfl), (Nat.le_of_ble_eq_true rfl)⟩, (Nat.le_of_ble_eq_true rfl), (Nat.le_of_ble_eq_true rfl)⟩ (fun v M16 hp => ?_)
    obtain ⟨rfl, rfl⟩ := hp
    refine hr_if_eq 26 X dX6_setChoice_19 (by decide) (fun c19 => ?_) (fun c19 => ?_)
    · rw [hm_bI_eq] at c19
      have hz : (sp_areC points signs) = false := by simp [sp_areC, c19]
      refine hr_iconst (0) X dX6_setChoice_26 (by decide) ?_
      exact hr_eq (by rw [hz] <;> rfl) J27
    · rw [hm_bI_ne] at c19
      have hz : (sp_areC points signs) = true := by simp [sp_areC, *]
      refine hr_iconst (1) X dX6_setChoice_22 (by decide) ?_
      refine hr_goto 27 X dX6_setChoice_23 (by decide) ?_
      exact hr_eq (by rw [hz] <;> rfl) J27
set_option maxHeartbeats 4000000 in
set_option maxRecDepth 100000 in
theorem c_X6_setWords (cA : Nat → ClassId) {sg ta : mm_S} {ad : Nat → Nat} {mo : Nat} {M0 M : hm_M} (hR : mm_R cA sg ta ad mo M0 M) (hI : sp_I sg) (g s t points words : Int32) : hm_Met cA yX6_setWords cX6_setWords 8 (some .int) r_X6_setWords [.ref mo, .int g, .int s, .int t, .int points, .int words] M (mm_P cA ad mo M0 (sp_thSet sg g s t (sp_areW points words) (nI (sp_len words))) (sg 5 (nN s)) (if sp_thSet sg g s t (sp_areW points words) (nI (sp_len words)) = 0 then sp_rev sg (nN g) (nN s) (nN t) (2) (points) (words) (0) else sg)) := by
  refine hm_met 2 (by decide +kernel) (fun w h => by simp only [List.mem_cons, List.not_mem_nil, or_false] at h; rcases h with rfl | rfl | rfl | rfl | rfl | rfl <;> rfl) rfl (fun C X => ?_)
  show hm_W C 0 0 _ M 0 [some (.ref mo), some (.int g), some (.int s), some (.int t), some (.int points), some (.int words), none, none] []
  have J24 : hm_W C 0 0 (hm_T C (mm_P cA ad mo M0 (sp_thSet sg g s t (sp_areW points words) (nI (sp_len words))) (sg 5 (nN s)) (if sp_thSet sg g s t (sp_areW points words) (nI (sp_len words)) = 0 then sp_rev sg (nN g) (nN s) (nN t) (2) (points) (words) (0) else sg)) r_X6_setWords.cells r_X6_setWords.slots) M 24 [some (.ref mo), some (.int g), some (.int s), some (.int t), some (.int points), some (.int words), none, none] [.int (hm_bI (sp_areW points words))] := by
    refine hr_istore X dX6_setWords_24 (Nat.le_of_ble_eq_true rfl) ?_
    have J60 : hm_W C 0 0 (hm_T C (mm_P cA ad mo M0 (sp_thSet sg g s t (sp_areW points words) (nI (sp_len words))) (sg 5 (nN s)) (if sp_thSet sg g s t (sp_areW points words) (nI (sp_len words)) = 0 then sp_rev sg (nN g) (nN s) (nN t) (2) (points) (words) (0) else sg)) r_X6_setWords.cells r_X6_setWords.slots) M 60 [some (.ref mo), some (.int g), some (.int s), some (.int t), some (.int points), some (.int words), some (.int (hm_bI (sp_areW points words))), none] [.int (hm_bI (sp_name sg g s t && (sp_areW points words && sp_canRev sg (nN g) (nN s) (nI (sp_len words)))))] := by
      refine hr_istore X dX6_setWords_60 (Nat.le_of_ble_eq_true rfl) ?_
      have J96 : hm_W C 0 0 (hm_T C (mm_P cA ad mo M0 (sp_thSet sg g s t (sp_areW points words) (nI (sp_len words))) (sg 5 (nN s)) (if sp_thSet sg g s t (sp_areW points words) (nI (sp_len words)) = 0 then sp_rev sg (nN g) (nN s) (nN t) (2) (points) (words) (0) else sg)) r_X6_setWords.cells r_X6_setWords.slots) M 96 [some (.ref mo), some (.int g), some (.int s), some (.int t), some (.int points), some (.int words), some (.int (hm_bI (sp_areW points words))), some (.int (hm_bI (sp_name sg g s t && (sp_areW points words && sp_canRev sg (nN g) (nN s) (nI (sp_len words))))))] [.int (sp_thSet sg g s t (sp_areW points words) (nI (sp_len words))), .ref mo] := by
        refine hr_callV X kC6_120 dX6_setWords_96 (c_X6_refused cA hR (sp_thSet sg g s t (sp_areW points words) (nI (sp_len words)))) hR.1 rfl rfl rfl rfl (Nat.le_of_ble_eq_true rfl) ⟨⟨(Nat.le_of_ble_eq_true rfl), (Nat.le_of_ble_eq_true rfl)⟩, (Nat.le_of_ble_eq_true rfl), (Nat.le_of_ble_eq_true rfl)⟩ (fun v M96 hp96 => ?_)
        obtain ⟨hR, rfl⟩ := hp96
        refine hr_if_eq 104 X dX6_setWords_99 (by decide) (fun c99 => ?_) (fun c99 => ?_)
        · rw [hm_bz] at c99
          rw [if_pos c99]
          obtain ⟨hn, ha, hc⟩ := sp_thSet_0 c99
          obtain ⟨g, s, t, hg, hs, hs4, ht, rfl, rfl, rfl⟩ := sp_name_nat hI hn
          have e1 : nN (nI g) = g := nI_clamp (by omega)
          have e2 : nN (nI s) = s := nI_clamp (by omega)
          have e3 : nN (nI t) = t := nI_clamp (by omega)
          rw [e1, e2] at hc
          simp only [sp_canRev, Bool.and_eq_true, Bool.not_eq_true', decide_eq_false_iff_not] at hc
          obtain ⟨m, hm1, hm16, hm, -⟩ := sp_made hI hs hc.1
          refine hr_aload_n X dX6_setWords_104 rfl (Or.inr ⟨_, rfl⟩) ?_
          refine hr_iload_n X dX6_setWords_105 rfl ?_
          refine hr_iload_n X dX6_setWords_106 rfl ?_
          refine hr_iload_n X dX6_setWords_107 rfl ?_
          refine hr_iconst (2) X dX6_setWords_108 (by decide) ?_
          refine hr_iload X dX6_setWords_109 rfl ?_
          refine hr_iload X dX6_setWords_111 rfl ?_
          refine hr_iconst (0) X dX6_setWords_113 (by decide) ?_
          refine hr_callV X kC6_139 dX6_setWords_114 (c_X6_revise cA hR g s t m hg hs4 ht hm hm16 (2) (points) (words) (0)) hR.1 rfl rfl rfl rfl (Nat.le_of_ble_eq_true rfl) ⟨⟨(Nat.le_of_ble_eq_true rfl), (Nat.le_of_ble_eq_true rfl)⟩, (Nat.le_of_ble_eq_true rfl), (Nat.le_of_ble_eq_true rfl)⟩ (fun v M114 hp114 => ?_)
          obtain ⟨hR, rfl⟩ := hp114
          exact hr_iret X dX6_setWords_117 (Nat.le_of_ble_eq_true rfl) (Nat.le_of_ble_eq_true rfl) ⟨_, _, by rw [e1, e2, e3]; exact hR, rfl, mm_up_s, fun _ => by rw [e2]⟩
        · rw [hm_bz] at c99
          rw [if_neg c99]
          refine hr_iconst (0) X dX6_setWords_102 (by decide) ?_
          exact hr_iret X dX6_setWords_103 (Nat.le_of_ble_eq_true rfl) (Nat.le_of_ble_eq_true rfl) ⟨_, _, hR, rfl, mm_up_s, fun q => absurd q c99⟩
      refine hr_aload_n X dX6_setWords_62 rfl (Or.inr ⟨_, rfl⟩) ?_
      refine hr_aload_n X dX6_setWords_63 rfl (Or.inr ⟨_, rfl⟩) ?_
      refine hr_iload_n X dX6_setWords_64 rfl ?_
      refine hr_iload_n X dX6_setWords_65 rfl ?_
      refine hr_iload_n X dX6_setWords_66 rfl ?_
      refine hr_callV X kC6_133 dX6_setWords_67 (c_X6_canName cA hR g s t) hR.1 rfl rfl rfl rfl (Nat.le_of_ble_eq_true rfl) ⟨⟨(Nat.le_of_ble_eq_true rfl), (Nat.le_of_ble_eq_true rfl)⟩, (Nat.le_of_ble_eq_true rfl), (Nat.le_of_ble_eq_true rfl)⟩ (fun v M67 hp => ?_)
      obtain ⟨rfl, rfl⟩ := hp
      refine hr_if_ne 77 X dX6_setWords_70 (by decide) (fun c70 => ?_) (fun c70 => ?_)
      · rw [hm_bI_ne] at c70
        refine hr_iload X dX6_setWords_77 rfl ?_
        refine hr_if_ne 86 X dX6_setWords_79 (by decide) (fun c79 => ?_) (fun c79 => ?_)
        · rw [hm_bI_ne] at c79
          refine hr_iload X dX6_setWords_86 rfl ?_
          refine hr_if_eq 95 X dX6_setWords_88 (by decide) (fun c88 => ?_) (fun c88 => ?_)
          · rw [hm_bI_eq] at c88
            rw [c70, c79] at c88
            have hz : sp_thSet sg g s t (sp_areW points words) (nI (sp_len words)) = 3 := by simp only [Bool.true_and] at c88; simp [sp_thSet, c70, c79, c88]
            refine hr_iconst (3) X dX6_setWords_95 (by decide) ?_
            exact hr_eq (by rw [hz] <;> rfl) J96
          · rw [hm_bI_ne] at c88
            rw [c70, c79] at c88
            have hz : sp_thSet sg g s t (sp_areW points words) (nI (sp_len words)) = 0 := by simp only [Bool.true_and] at c88; simp [sp_thSet, c70, c79, c88]
            refine hr_iconst (0) X dX6_setWords_91 (by decide) ?_
            refine hr_goto 96 X dX6_setWords_92 (by decide) ?_
            exact hr_eq (by rw [hz] <;> rfl) J96
        · rw [hm_bI_eq] at c79
          have hz : sp_thSet sg g s t (sp_areW points words) (nI (sp_len words)) = 2 := by simp [sp_thSet, c70, c79]
          refine hr_iconst (2) X dX6_setWords_82 (by decide) ?_
          refine hr_goto 96 X dX6_setWords_83 (by decide) ?_
          exact hr_eq (by rw [hz] <;> rfl) J96
      · rw [hm_bI_eq] at c70
        have hz : sp_thSet sg g s t (sp_areW points words) (nI (sp_len words)) = 1 := by simp [sp_thSet, c70]
        refine hr_iconst (1) X dX6_setWords_73 (by decide) ?_
        refine hr_goto 96 X dX6_setWords_74 (by decide) ?_
        exact hr_eq (by rw [hz] <;> rfl) J96
    refine hr_aload_n X dX6_setWords_26 rfl (Or.inr ⟨_, rfl⟩) ?_
    refine hr_iload_n X dX6_setWords_27 rfl ?_
    refine hr_iload_n X dX6_setWords_28 rfl ?_
    refine hr_iload_n X dX6_setWords_29 rfl ?_
    refine hr_callV X kC6_133 dX6_setWords_30 (c_X6_canName cA hR g s t) hR.1 rfl rfl rfl rfl (Nat.le_of_ble_eq_true rfl) ⟨⟨(Nat.le_of_ble_eq_true rfl), (Nat.le_of_ble_eq_true rfl)⟩, (Nat.le_of_ble_eq_true rfl), (Nat.le_of_ble_eq_true rfl)⟩ (fun v M30 hp => ?_)
    obtain ⟨rfl, rfl⟩ := hp
    refine hr_if_eq 59 X dX6_setWords_33 (by decide) (fun c33 => ?_) (fun c33 => ?_)
    · rw [hm_bI_eq] at c33
      have hz : (sp_name sg g s t && (sp_areW points words && sp_canRev sg (nN g) (nN s) (nI (sp_len words)))) = false := by simp [c33]
      refine hr_iconst (0) X dX6_setWords_59 (by decide) ?_
      exact hr_eq (by rw [hz] <;> rfl) J60
    · rw [hm_bI_ne] at c33
      refine hr_iload X dX6_setWords_36 rfl ?_
      refine hr_if_eq 59 X dX6_setWords_38 (by decide) (fun c38 => ?_) (fun c38 => ?_)
      · rw [hm_bI_eq] at c38
        have hz : (sp_name sg g s t && (sp_areW points words && sp_canRev sg (nN g) (nN s) (nI (sp_len words)))) = false := by simp [c38]
        refine hr_iconst (0) X dX6_setWords_59 (by decide) ?_
        exact hr_eq (by rw [hz] <;> rfl) J60
      · rw [hm_bI_ne] at c38
        obtain ⟨g, s, t, hg, hs, hs4, ht, rfl, rfl, rfl⟩ := sp_name_nat hI c33
        have e1 : nN (nI g) = g := nI_clamp (by omega)
        have e2 : nN (nI s) = s := nI_clamp (by omega)
        refine hr_aload_n X dX6_setWords_41 rfl (Or.inr ⟨_, rfl⟩) ?_
        refine hr_iload_n X dX6_setWords_42 rfl ?_
        refine hr_iload_n X dX6_setWords_43 rfl ?_
        refine hr_iload X dX6_setWords_44 rfl ?_
        refine hr_callS X kC6_103 dX6_setWords_46 (c_X6_lengthOf cA (M := M) words) rfl rfl rfl (Nat.le_of_ble_eq_true rfl) ⟨⟨(Nat.le_of_ble_eq_true rfl), (Nat.le_of_ble_eq_true rfl)⟩, (Nat.le_of_ble_eq_true rfl), (Nat.le_of_ble_eq_true rfl)⟩ (fun v M46 hp => ?_)
        obtain ⟨rfl, rfl⟩ := hp
        refine hr_callV X kC6_136 dX6_setWords_49 (c_X6_canRevise cA hR s g hs4 hg (nI (sp_len words))) hR.1 rfl rfl rfl rfl (Nat.le_of_ble_eq_true rfl) ⟨⟨(Nat.le_of_ble_eq_true rfl), (Nat.le_of_ble_eq_true rfl)⟩, (Nat.le_of_ble_eq_true rfl), (Nat.le_of_ble_eq_true rfl)⟩ (fun v M49 hp => ?_)
        obtain ⟨rfl, rfl⟩ := hp
        refine hr_if_eq 59 X dX6_setWords_52 (by decide) (fun c52 => ?_) (fun c52 => ?_)
        · rw [hm_bI_eq] at c52
          have hz : (sp_name sg (nI g) (nI s) (nI t) && (sp_areW points words && sp_canRev sg (nN (nI g)) (nN (nI s)) (nI (sp_len words)))) = false := by rw [e1, e2, show sp_canRev sg g s (nI (sp_len words)) = false from c52]; simp
          refine hr_iconst (0) X dX6_setWords_59 (by decide) ?_
          exact hr_eq (by rw [hz] <;> rfl) J60
        · rw [hm_bI_ne] at c52
          have hz : (sp_name sg (nI g) (nI s) (nI t) && (sp_areW points words && sp_canRev sg (nN (nI g)) (nN (nI s)) (nI (sp_len words)))) = true := by rw [e1, e2, show sp_canRev sg g s (nI (sp_len words)) = true from c52, c33, c38]; rfl
          refine hr_iconst (1) X dX6_setWords_55 (by decide) ?_
          refine hr_goto 60 X dX6_setWords_56 (by decide) ?_
          exact hr_eq (by rw [hz] <;> rfl) J60
  refine hr_iload X dX6_setWords_0 rfl ?_
  refine hr_iconst (1) X dX6_setWords_2 (by decide) ?_
  refine hr_bipush (10) X dX6_setWords_3 (by decide) ?_
  refine hr_callS X kC6_87 dX6_setWords_5 (c_X6_in cA (M := M) points 1 10) rfl rfl rfl (Nat.le_of_ble_eq_true rfl) ⟨⟨(Nat.le_of_ble_eq_true rfl), (Nat.le_of_ble_eq_true rfl)⟩, (Nat.le_of_ble_eq_true rfl), (Nat.le_of_ble_eq_true rfl)⟩ (fun v M5 hp => ?_)
  obtain ⟨rfl, rfl⟩ := hp
  refine hr_if_eq 23 X dX6_setWords_8 (by decide) (fun c8 => ?_) (fun c8 => ?_)
  · rw [hm_bI_eq] at c8
    have hz : (sp_areW points words) = false := by simp [sp_areW, c8]
    refine hr_iconst (0) X dX6_setWords_23 (by decide) ?_
    exact hr_eq (by rw [hz] <;> rfl) J24
  · rw [hm_bI_ne] at c8
    refine hr_iload X dX6_setWords_11 rfl ?_
    refine hr_callS X kC6_143 dX6_setWords_13 (c_X6_isRow cA (M := M) words) rfl rfl rfl (Nat.le_of_ble_eq_true rfl) ⟨⟨(Nat.le_of_ble_eq_true rfl), (Nat.le_of_ble_eq_true rfl)⟩, (Nat.le_of_ble_eq_true rfl), (Nat.le_of_ble_eq_true rfl)⟩ (fun v M13 hp => ?_)
    obtain ⟨rfl, rfl⟩ := hp
    refine hr_if_eq 23 X dX6_setWords_16 (by decide) (fun c16 => ?_) (fun c16 => ?_)
    · rw [hm_bI_eq] at c16
      have hz : (sp_areW points words) = false := by simp [sp_areW, c16]
      refine hr_iconst (0) X dX6_setWords_23 (by decide) ?_
      exact hr_eq (by rw [hz] <;> rfl) J24
    · rw [hm_bI_ne] at c16
      have hz : (sp_areW points words) = true := by simp [sp_areW, *]
      refine hr_iconst (1) X dX6_setWords_19 (by decide) ?_
      refine hr_goto 24 X dX6_setWords_20 (by decide) ?_
      exact hr_eq (by rw [hz] <;> rfl) J24
