set_option maxHeartbeats 4000000 in
set_option maxRecDepth 100000 in
theorem c_X6_mendWords (cA : Nat → ClassId) {sg ta : mm_S} {ad : Nat → Nat} {mo : Nat} {M0 M : hm_M} (hR : mm_R cA sg ta ad mo M0 M) (hI : sp_I sg) (s v t words : Int32) : hm_Met cA yX6_mendWords cX6_mendWords 9 (some .int) r_X6_mendWords [.ref mo, .int s, .int v, .int t, .int words] M (mm_P cA ad mo M0 (sp_thMenW sg s v t words) (sp_mendN sg (nN s) (sp_menE sg (nN s) (nN v) (nN t) 2) words 0) (if sp_thMenW sg s v t words = 0 then sp_mend sg (nN s) (sp_menE sg (nN s) (nN v) (nN t) 2) words 0 else sg)) := by
  refine hm_met 4 (by decide +kernel) (fun w h => by simp only [List.mem_cons, List.not_mem_nil, or_false] at h; rcases h with rfl | rfl | rfl | rfl | rfl <;> rfl) rfl (fun C X => ?_)
  show hm_W C 0 0 _ M 0 [some (.ref mo), some (.int s), some (.int v), some (.int t), some (.int words), none, none, none, none] []
  refine hr_iload X dX6_mendWords_0 rfl ?_
  refine hr_callS X kC6_143 dX6_mendWords_2 (c_X6_isRow cA (M := M) words) rfl rfl rfl (Nat.le_of_ble_eq_true rfl) ⟨⟨(Nat.le_of_ble_eq_true rfl), (Nat.le_of_ble_eq_true rfl)⟩, (Nat.le_of_ble_eq_true rfl), (Nat.le_of_ble_eq_true rfl)⟩ (fun v M2 hp => ?_)
  obtain ⟨rfl, rfl⟩ := hp
  refine hr_istore X dX6_mendWords_5 (Nat.le_of_ble_eq_true rfl) ?_
  refine hr_aload_n X dX6_mendWords_7 rfl (Or.inr ⟨_, rfl⟩) ?_
  refine hr_iload_n X dX6_mendWords_8 rfl ?_
  refine hr_iload_n X dX6_mendWords_9 rfl ?_
  refine hr_iload_n X dX6_mendWords_10 rfl ?_
  refine hr_callV X kC6_183 dX6_mendWords_11 (c_X6_isNamed cA hR hI s v t) hR.1 rfl rfl rfl rfl (Nat.le_of_ble_eq_true rfl) ⟨⟨(Nat.le_of_ble_eq_true rfl), (Nat.le_of_ble_eq_true rfl)⟩, (Nat.le_of_ble_eq_true rfl), (Nat.le_of_ble_eq_true rfl)⟩ (fun v M11 hp => ?_)
  obtain ⟨rfl, rfl⟩ := hp
  refine hr_istore X dX6_mendWords_14 (Nat.le_of_ble_eq_true rfl) ?_
  have J33 : hm_W C 0 0 (hm_T C (mm_P cA ad mo M0 (sp_thMenW sg s v t words) (sp_mendN sg (nN s) (sp_menE sg (nN s) (nN v) (nN t) 2) words 0) (if sp_thMenW sg s v t words = 0 then sp_mend sg (nN s) (sp_menE sg (nN s) (nN v) (nN t) 2) words 0 else sg)) r_X6_mendWords.cells r_X6_mendWords.slots) M 33 [some (.ref mo), some (.int s), some (.int v), some (.int t), some (.int words), some (.int (hm_bI (sp_row words))), some (.int (hm_bI (sp_nmd sg s v t))), none, none] [.int (if sp_nmd sg s v t = true then sp_o ((sp_men sg (nN s) (nN v) (nN t) 2).map (fun u => sp_e (nN s) u (nN t))) else -1)] := by
    refine hr_istore X dX6_mendWords_33 (Nat.le_of_ble_eq_true rfl) ?_
    have J79 : hm_W C 0 0 (hm_T C (mm_P cA ad mo M0 (sp_thMenW sg s v t words) (sp_mendN sg (nN s) (sp_menE sg (nN s) (nN v) (nN t) 2) words 0) (if sp_thMenW sg s v t words = 0 then sp_mend sg (nN s) (sp_menE sg (nN s) (nN v) (nN t) 2) words 0 else sg)) r_X6_mendWords.cells r_X6_mendWords.slots) M 79 [some (.ref mo), some (.int s), some (.int v), some (.int t), some (.int words), some (.int (hm_bI (sp_row words))), some (.int (hm_bI (sp_nmd sg s v t))), some (.int (if sp_nmd sg s v t = true then sp_o ((sp_men sg (nN s) (nN v) (nN t) 2).map (fun u => sp_e (nN s) u (nN t))) else -1)), none] [.int (hm_bI (sp_row words && (sp_nmd sg s v t && sp_menW sg (nN s) (nN v) (nN t) words)))] := by
      refine hr_istore X dX6_mendWords_79 (Nat.le_of_ble_eq_true rfl) ?_
      have J110 : hm_W C 0 0 (hm_T C (mm_P cA ad mo M0 (sp_thMenW sg s v t words) (sp_mendN sg (nN s) (sp_menE sg (nN s) (nN v) (nN t) 2) words 0) (if sp_thMenW sg s v t words = 0 then sp_mend sg (nN s) (sp_menE sg (nN s) (nN v) (nN t) 2) words 0 else sg)) r_X6_mendWords.cells r_X6_mendWords.slots) M 110 [some (.ref mo), some (.int s), some (.int v), some (.int t), some (.int words), some (.int (hm_bI (sp_row words))), some (.int (hm_bI (sp_nmd sg s v t))), some (.int (if sp_nmd sg s v t = true then sp_o ((sp_men sg (nN s) (nN v) (nN t) 2).map (fun u => sp_e (nN s) u (nN t))) else -1)), some (.int (hm_bI (sp_row words && (sp_nmd sg s v t && sp_menW sg (nN s) (nN v) (nN t) words))))] [.int (sp_thMenW sg s v t words), .ref mo] := by
        refine hr_callV X kC6_120 dX6_mendWords_110 (c_X6_refused cA hR (sp_thMenW sg s v t words)) hR.1 rfl rfl rfl rfl (Nat.le_of_ble_eq_true rfl) ⟨⟨(Nat.le_of_ble_eq_true rfl), (Nat.le_of_ble_eq_true rfl)⟩, (Nat.le_of_ble_eq_true rfl), (Nat.le_of_ble_eq_true rfl)⟩ (fun v M110 hp110 => ?_)
        obtain ⟨hR, rfl⟩ := hp110
        refine hr_if_eq 118 X dX6_mendWords_113 (by decide) (fun c113 => ?_) (fun c113 => ?_)
        · rw [hm_bz] at c113
          rw [if_pos c113]
          obtain ⟨hn, hrow, hmw⟩ := sp_thMenW_0 c113
          obtain ⟨a, b, t, ha, ha4, hb, ht, rfl, rfl, rfl, e1, e2, e3⟩ := sp_nmd_nat hI hn
          have hb16 := hb.1
          rw [e1, e2, e3] at hmw
          obtain ⟨u, hq⟩ : ∃ u, sp_men sg a b t 2 = some u := by
            cases hq : sp_men sg a b t 2 with
            | none => rw [sp_menW, hq] at hmw; exact absurd hmw Bool.false_ne_true
            | some u => exact ⟨u, rfl⟩
          have hqs := sp_men_some hI ha hb hq
          have hu16 := hqs.2.1.1
          have he : sp_e a u t < 320 := by simp only [sp_e]; omega
          have hE0 : sp_menE sg a b t 2 = sp_e a u t := by rw [sp_menE, hq]
          have hE : (if sp_nmd sg (nI a) (nI b) (nI t) = true then sp_o ((sp_men sg (nN (nI a)) (nN (nI b)) (nN (nI t)) 2).map (fun u => sp_e (nN (nI a)) u (nN (nI t)))) else -1) = nI (sp_e a u t) := by rw [if_pos hn, e1, e2, e3, hq]; rfl
          refine hr_aload_n X dX6_mendWords_118 rfl (Or.inr ⟨_, rfl⟩) ?_
          refine hr_iload_n X dX6_mendWords_119 rfl ?_
          refine hr_iload X dX6_mendWords_120 rfl ?_
          rw [hE]
          refine hr_iload X dX6_mendWords_122 rfl ?_
          refine hr_iconst (0) X dX6_mendWords_124 (by decide) ?_
          refine hr_callV X kC6_190 dX6_mendWords_125 (c_X6_mend cA hR hI a (sp_e a u t) ha ha4 he words 0 (sp_okR_of hqs.2.2 (Or.inr (Or.inr ⟨rfl, hrow⟩)))) hR.1 rfl rfl rfl rfl (Nat.le_of_ble_eq_true rfl) ⟨⟨(Nat.le_of_ble_eq_true rfl), (Nat.le_of_ble_eq_true rfl)⟩, (Nat.le_of_ble_eq_true rfl), (Nat.le_of_ble_eq_true rfl)⟩ (fun v M125 hp125 => ?_)
          obtain ⟨ta1, hR, rfl, hta1⟩ := hp125
          exact hr_iret X dX6_mendWords_128 (Nat.le_of_ble_eq_true rfl) (Nat.le_of_ble_eq_true rfl) ⟨_, _, by rw [e1, e2, e3, hE0]; exact hR, rfl, by rw [hta1]; exact mm_up_s, fun _ => by rw [e1, e2, e3, hE0]⟩
        · rw [hm_bz] at c113
          rw [if_neg c113]
          refine hr_iconst (0) X dX6_mendWords_116 (by decide) ?_
          exact hr_iret X dX6_mendWords_117 (Nat.le_of_ble_eq_true rfl) (Nat.le_of_ble_eq_true rfl) ⟨_, _, hR, rfl, mm_up_s, fun q => absurd q c113⟩
      refine hr_aload_n X dX6_mendWords_81 rfl (Or.inr ⟨_, rfl⟩) ?_
      refine hr_iload X dX6_mendWords_82 rfl ?_
      refine hr_if_ne 91 X dX6_mendWords_84 (by decide) (fun c84 => ?_) (fun c84 => ?_)
      · rw [hm_bI_ne] at c84
        refine hr_iload X dX6_mendWords_91 rfl ?_
        refine hr_if_ne 100 X dX6_mendWords_93 (by decide) (fun c93 => ?_) (fun c93 => ?_)
        · rw [hm_bI_ne] at c93
          refine hr_iload X dX6_mendWords_100 rfl ?_
          refine hr_if_eq 109 X dX6_mendWords_102 (by decide) (fun c102 => ?_) (fun c102 => ?_)
          · rw [hm_bI_eq] at c102
            rw [c84, c93, Bool.true_and, Bool.true_and] at c102
            have hz : sp_thMenW sg s v t words = 3 := by rw [sp_thMenW, if_pos c84, if_pos c93, c102]; rfl
            refine hr_iconst (3) X dX6_mendWords_109 (by decide) ?_
            exact hr_eq (by rw [hz] <;> rfl) J110
          · rw [hm_bI_ne] at c102
            rw [c84, c93, Bool.true_and, Bool.true_and] at c102
            have hz : sp_thMenW sg s v t words = 0 := by rw [sp_thMenW, if_pos c84, if_pos c93, c102]; rfl
            refine hr_iconst (0) X dX6_mendWords_105 (by decide) ?_
            refine hr_goto 110 X dX6_mendWords_106 (by decide) ?_
            exact hr_eq (by rw [hz] <;> rfl) J110
        · rw [hm_bI_eq] at c93
          have hz : sp_thMenW sg s v t words = 2 := by simp [sp_thMenW, c84, c93]
          refine hr_iconst (2) X dX6_mendWords_96 (by decide) ?_
          refine hr_goto 110 X dX6_mendWords_97 (by decide) ?_
          exact hr_eq (by rw [hz] <;> rfl) J110
      · rw [hm_bI_eq] at c84
        have hz : sp_thMenW sg s v t words = 1 := by simp [sp_thMenW, c84]
        refine hr_iconst (1) X dX6_mendWords_87 (by decide) ?_
        refine hr_goto 110 X dX6_mendWords_88 (by decide) ?_
        exact hr_eq (by rw [hz] <;> rfl) J110
    refine hr_iload X dX6_mendWords_35 rfl ?_
    refine hr_if_eq 78 X dX6_mendWords_37 (by decide) (fun c37 => ?_) (fun c37 => ?_)
    · rw [hm_bI_eq] at c37
      have hz : (sp_row words && (sp_nmd sg s v t && sp_menW sg (nN s) (nN v) (nN t) words)) = false := by rw [c37]; rfl
      refine hr_iconst (0) X dX6_mendWords_78 (by decide) ?_
      exact hr_eq (by rw [hz] <;> rfl) J79
    · rw [hm_bI_ne] at c37
      refine hr_iload X dX6_mendWords_40 rfl ?_
      refine hr_iconst (-1) X dX6_mendWords_42 (by decide) ?_
      refine hr_icmp_eq 78 X dX6_mendWords_43 (by decide) (fun c43 => ?_) (fun c43 => ?_)
      · have hz : (sp_row words && (sp_nmd sg s v t && sp_menW sg (nN s) (nN v) (nN t) words)) = false := by
          cases hn : sp_nmd sg s v t with
          | false => simp
          | true =>
            obtain ⟨a, b, t, ha, ha4, hb, ht, rfl, rfl, rfl, e1, e2, e3⟩ := sp_nmd_nat hI hn
            rw [if_pos hn, e1, e2, e3] at c43
            have hq : sp_men sg a b t 2 = none := Option.map_eq_none_iff.mp (sp_o_none (fun u h => by
              obtain ⟨w, h1, rfl⟩ := Option.map_eq_some_iff.mp h
              have := (sp_men_some hI ha hb h1).2.1.1
              simp only [sp_e]
              omega) c43)
            rw [e1, e2, e3, sp_menW, hq]
            simp
        refine hr_iconst (0) X dX6_mendWords_78 (by decide) ?_
        exact hr_eq (by rw [hz] <;> rfl) J79
      · have hn : sp_nmd sg s v t = true := by
          cases hn : sp_nmd sg s v t with
          | true => rfl
          | false => exact absurd (by rw [hn]; rfl) c43
        obtain ⟨a, b, t, ha, ha4, hb, ht, rfl, rfl, rfl, e1, e2, e3⟩ := sp_nmd_nat hI hn
        have hb16 := hb.1
        rw [if_pos hn, e1, e2, e3] at c43
        obtain ⟨w, hw⟩ := sp_o_some c43
        obtain ⟨u, hq, -⟩ := Option.map_eq_some_iff.mp hw
        have hqs := sp_men_some hI ha hb hq
        have hu16 := hqs.2.1.1
        have he : sp_e a u t < 320 := by simp only [sp_e]; omega
        have hE : (if sp_nmd sg (nI a) (nI b) (nI t) = true then sp_o ((sp_men sg (nN (nI a)) (nN (nI b)) (nN (nI t)) 2).map (fun u => sp_e (nN (nI a)) u (nN (nI t)))) else -1) = nI (sp_e a u t) := by rw [if_pos hn, e1, e2, e3, hq]; rfl
        obtain ⟨g, hg, hog⟩ := sp_own hI ha hqs.2.1 ht (by rw [hqs.2.2]; decide)
        have eg : nN (sg 4 (16 * a + u)) = g := by rw [hog]; exact nI_clamp (by omega)
        have hW : sp_menW sg (nN (nI a)) (nN (nI b)) (nN (nI t)) words = sp_fits sg g (nI (sp_len words) - sp_cost sg (sp_e a u t)) := by rw [e1, e2, e3, sp_menW, hq]; show sp_fits sg (nN (sg 4 (16 * a + u))) _ = _; rw [eg]
        refine hr_aload_n X dX6_mendWords_46 rfl (Or.inr ⟨_, rfl⟩) ?_
        refine hr_aload_n X dX6_mendWords_47 rfl (Or.inr ⟨_, rfl⟩) ?_
        refine mm_getA X kF6_17 dX6_mendWords_48 hR 4 rfl ?_
        refine hr_iload X dX6_mendWords_51 rfl ?_
        refine hr_iconst (5) X dX6_mendWords_53 (by decide) ?_
        refine hr_idiv X dX6_mendWords_54 (by decide) ?_
        refine mm_iald (16 * a + u) X dX6_mendWords_55 hR rfl (by rw [hE, mm_d5 (by omega)]; congr 1; simp only [sp_e]; omega) (by simp only [mm_len, sp_e]; omega) ?_
        rw [hog]
        refine hr_iload X dX6_mendWords_56 rfl ?_
        refine hr_callS X kC6_103 dX6_mendWords_58 (c_X6_lengthOf cA (M := _) words) rfl rfl rfl (Nat.le_of_ble_eq_true rfl) ⟨⟨(Nat.le_of_ble_eq_true rfl), (Nat.le_of_ble_eq_true rfl)⟩, (Nat.le_of_ble_eq_true rfl), (Nat.le_of_ble_eq_true rfl)⟩ (fun v M58 hp => ?_)
        obtain ⟨rfl, rfl⟩ := hp
        refine hr_aload_n X dX6_mendWords_61 rfl (Or.inr ⟨_, rfl⟩) ?_
        refine hr_iload X dX6_mendWords_62 rfl ?_
        rw [hE]
        refine hr_callV X kC6_111 dX6_mendWords_64 (c_X6_costOf cA hR (sp_e a u t) he) hR.1 rfl rfl rfl rfl (Nat.le_of_ble_eq_true rfl) ⟨⟨(Nat.le_of_ble_eq_true rfl), (Nat.le_of_ble_eq_true rfl)⟩, (Nat.le_of_ble_eq_true rfl), (Nat.le_of_ble_eq_true rfl)⟩ (fun v M64 hp => ?_)
        obtain ⟨rfl, rfl⟩ := hp
        refine hr_isub X dX6_mendWords_67 ?_
        refine hr_callV X kC6_123 dX6_mendWords_68 (c_X6_fits cA hR g hg (nI (sp_len words) - sp_cost sg (sp_e a u t))) hR.1 rfl rfl rfl rfl (Nat.le_of_ble_eq_true rfl) ⟨⟨(Nat.le_of_ble_eq_true rfl), (Nat.le_of_ble_eq_true rfl)⟩, (Nat.le_of_ble_eq_true rfl), (Nat.le_of_ble_eq_true rfl)⟩ (fun v M68 hp => ?_)
        obtain ⟨rfl, rfl⟩ := hp
        refine hr_if_eq 78 X dX6_mendWords_71 (by decide) (fun c71 => ?_) (fun c71 => ?_)
        · rw [hm_bI_eq] at c71
          rw [← hE]
          have hz : (sp_row words && (sp_nmd sg (nI a) (nI b) (nI t) && sp_menW sg (nN (nI a)) (nN (nI b)) (nN (nI t)) words)) = false := by rw [hW, c71]; simp
          refine hr_iconst (0) X dX6_mendWords_78 (by decide) ?_
          exact hr_eq (by rw [hz] <;> rfl) J79
        · rw [hm_bI_ne] at c71
          rw [← hE]
          have hz : (sp_row words && (sp_nmd sg (nI a) (nI b) (nI t) && sp_menW sg (nN (nI a)) (nN (nI b)) (nN (nI t)) words)) = true := by rw [hW, c71, c37, hn]; rfl
          refine hr_iconst (1) X dX6_mendWords_74 (by decide) ?_
          refine hr_goto 79 X dX6_mendWords_75 (by decide) ?_
          exact hr_eq (by rw [hz] <;> rfl) J79
  refine hr_iload X dX6_mendWords_16 rfl ?_
  refine hr_if_eq 32 X dX6_mendWords_18 (by decide) (fun c18 => ?_) (fun c18 => ?_)
  · rw [hm_bI_eq] at c18
    have hz : (if sp_nmd sg s v t = true then sp_o ((sp_men sg (nN s) (nN v) (nN t) 2).map (fun u => sp_e (nN s) u (nN t))) else -1) = -1 := by rw [show sp_nmd sg s v t = false from c18]; rfl
    refine hr_iconst (-1) X dX6_mendWords_32 (by decide) ?_
    exact hr_eq (by rw [hz] <;> rfl) J33
  · rw [hm_bI_ne] at c18
    obtain ⟨a, b, t, ha, ha4, hb, ht, rfl, rfl, rfl, e1, e2, e3⟩ := sp_nmd_nat hI c18
    have hb16 := hb.1
    have hz : (if sp_nmd sg (nI a) (nI b) (nI t) = true then sp_o ((sp_men sg (nN (nI a)) (nN (nI b)) (nN (nI t)) 2).map (fun u => sp_e (nN (nI a)) u (nN (nI t)))) else -1) = sp_o ((sp_men sg a b t 2).map (fun u => sp_e a u t)) := by rw [if_pos (show sp_nmd sg (nI a) (nI b) (nI t) = true from c18), e1, e2, e3]
    refine hr_aload_n X dX6_mendWords_21 rfl (Or.inr ⟨_, rfl⟩) ?_
    refine hr_iload_n X dX6_mendWords_22 rfl ?_
    refine hr_iload_n X dX6_mendWords_23 rfl ?_
    refine hr_iload_n X dX6_mendWords_24 rfl ?_
    refine hr_iconst (2) X dX6_mendWords_25 (by decide) ?_
    refine hr_callV X kC6_186 dX6_mendWords_26 (c_X6_mended cA hR hI a b t ha hb ht 2) hR.1 rfl rfl rfl rfl (Nat.le_of_ble_eq_true rfl) ⟨⟨(Nat.le_of_ble_eq_true rfl), (Nat.le_of_ble_eq_true rfl)⟩, (Nat.le_of_ble_eq_true rfl), (Nat.le_of_ble_eq_true rfl)⟩ (fun v M26 hp => ?_)
    obtain ⟨rfl, rfl⟩ := hp
    refine hr_goto 33 X dX6_mendWords_29 (by decide) ?_
    exact hr_eq (by rw [hz] <;> rfl) J33
set_option maxHeartbeats 4000000 in
set_option maxRecDepth 100000 in
theorem c_X6_areBoth (cA : Nat → ClassId) {sg ta : mm_S} {ad : Nat → Nat} {mo : Nat} {M0 M : hm_M} (hR : mm_R cA sg ta ad mo M0 M) (p s : Int32) : hm_Met cA yX6_areBoth cX6_areBoth 3 (some .boolean) r_X6_areBoth [.ref mo, .int p, .int s] M (hm_pu (some (.int (hm_bI (sp_both sg p s)))) M) := by
  refine hm_met 0 (by decide +kernel) (fun w h => by simp only [List.mem_cons, List.not_mem_nil, or_false] at h; rcases h with rfl | rfl | rfl <;> rfl) rfl (fun C X => ?_)
  show hm_W C 0 0 _ M 0 [some (.ref mo), some (.int p), some (.int s)] []
  refine hr_iload_n X dX6_areBoth_0 rfl ?_
  refine hr_callS X kC6_193 dX6_areBoth_1 (c_X6_isPupil cA (M := M) p) rfl rfl rfl (Nat.le_of_ble_eq_true rfl) ⟨⟨(Nat.le_of_ble_eq_true rfl), (Nat.le_of_ble_eq_true rfl)⟩, (Nat.le_of_ble_eq_true rfl), (Nat.le_of_ble_eq_true rfl)⟩ (fun v M1 hp => ?_)
  obtain ⟨rfl, rfl⟩ := hp
  refine hr_if_eq 19 X dX6_areBoth_4 (by decide) (fun c4 => ?_) (fun c4 => ?_)
  · rw [hm_bI_eq] at c4
    refine hr_iconst (0) X dX6_areBoth_19 (by decide) ?_
    exact hr_zret X dX6_areBoth_20 (by rfl) (Nat.le_of_ble_eq_true rfl) (Nat.le_of_ble_eq_true rfl) ⟨by simp [sp_both, hm_bI, *], rfl⟩
  · rw [hm_bI_ne] at c4
    refine hr_aload_n X dX6_areBoth_7 rfl (Or.inr ⟨_, rfl⟩) ?_
    refine hr_iload_n X dX6_areBoth_8 rfl ?_
    refine hr_callV X kC6_94 dX6_areBoth_9 (c_X6_isSheet cA hR s) hR.1 rfl rfl rfl rfl (Nat.le_of_ble_eq_true rfl) ⟨⟨(Nat.le_of_ble_eq_true rfl), (Nat.le_of_ble_eq_true rfl)⟩, (Nat.le_of_ble_eq_true rfl), (Nat.le_of_ble_eq_true rfl)⟩ (fun v M9 hp => ?_)
    obtain ⟨rfl, rfl⟩ := hp
    refine hr_if_eq 19 X dX6_areBoth_12 (by decide) (fun c12 => ?_) (fun c12 => ?_)
    · rw [hm_bI_eq] at c12
      refine hr_iconst (0) X dX6_areBoth_19 (by decide) ?_
      exact hr_zret X dX6_areBoth_20 (by rfl) (Nat.le_of_ble_eq_true rfl) (Nat.le_of_ble_eq_true rfl) ⟨by simp [sp_both, hm_bI, *], rfl⟩
    · rw [hm_bI_ne] at c12
      refine hr_iconst (1) X dX6_areBoth_15 (by decide) ?_
      refine hr_goto 20 X dX6_areBoth_16 (by decide) ?_
      exact hr_zret X dX6_areBoth_20 (by rfl) (Nat.le_of_ble_eq_true rfl) (Nat.le_of_ble_eq_true rfl) ⟨by simp [sp_both, hm_bI, *], rfl⟩
set_option maxHeartbeats 4000000 in
set_option maxRecDepth 100000 in
theorem c_X6_noAnswer (cA : Nat → ClassId) {sg ta : mm_S} {ad : Nat → Nat} {mo : Nat} {M0 M : hm_M} (hR : mm_R cA sg ta ad mo M0 M) (p s : Int32) : hm_Met cA yX6_noAnswer cX6_noAnswer 3 (some .boolean) r_X6_noAnswer [.ref mo, .int p, .int s] M (fun r9 M' => mm_R cA sg (mm_up ta 0 0 (sp_w (sp_both sg p s))) ad mo M0 M' ∧ r9 = some (.int (hm_bI (!decide ((sp_w (sp_both sg p s)) = 0))))) := by
  refine hm_met 0 (by decide +kernel) (fun w h => by simp only [List.mem_cons, List.not_mem_nil, or_false] at h; rcases h with rfl | rfl | rfl <;> rfl) rfl (fun C X => ?_)
  show hm_W C 0 0 _ M 0 [some (.ref mo), some (.int p), some (.int s)] []
  refine hr_aload_n X dX6_noAnswer_0 rfl (Or.inr ⟨_, rfl⟩) ?_
  have J15 : hm_W C 0 0 (hm_T C (fun r9 M' => mm_R cA sg (mm_up ta 0 0 (sp_w (sp_both sg p s))) ad mo M0 M' ∧ r9 = some (.int (hm_bI (!decide ((sp_w (sp_both sg p s)) = 0))))) r_X6_noAnswer.cells r_X6_noAnswer.slots) M 15 [some (.ref mo), some (.int p), some (.int s)] [.int (sp_w (sp_both sg p s)), .ref mo] := by
    refine hr_callV X kC6_120 dX6_noAnswer_15 (c_X6_refused cA hR (sp_w (sp_both sg p s))) hR.1 rfl rfl rfl rfl (Nat.le_of_ble_eq_true rfl) ⟨⟨(Nat.le_of_ble_eq_true rfl), (Nat.le_of_ble_eq_true rfl)⟩, (Nat.le_of_ble_eq_true rfl), (Nat.le_of_ble_eq_true rfl)⟩ (fun v M15 hp15 => ?_)
    obtain ⟨hR, rfl⟩ := hp15
    exact hr_zret X dX6_noAnswer_18 (hm_bIz _) (Nat.le_of_ble_eq_true rfl) (Nat.le_of_ble_eq_true rfl) ⟨hR, rfl⟩
  refine hr_aload_n X dX6_noAnswer_1 rfl (Or.inr ⟨_, rfl⟩) ?_
  refine hr_iload_n X dX6_noAnswer_2 rfl ?_
  refine hr_iload_n X dX6_noAnswer_3 rfl ?_
  refine hr_callV X kC6_196 dX6_noAnswer_4 (c_X6_areBoth cA hR p s) hR.1 rfl rfl rfl rfl (Nat.le_of_ble_eq_true rfl) ⟨⟨(Nat.le_of_ble_eq_true rfl), (Nat.le_of_ble_eq_true rfl)⟩, (Nat.le_of_ble_eq_true rfl), (Nat.le_of_ble_eq_true rfl)⟩ (fun v M4 hp => ?_)
  obtain ⟨rfl, rfl⟩ := hp
  refine hr_if_eq 14 X dX6_noAnswer_7 (by decide) (fun c7 => ?_) (fun c7 => ?_)
  · rw [hm_bI_eq] at c7
    have hz : sp_w (sp_both sg p s) = 1 := by simp [sp_w, c7]
    refine hr_iconst (1) X dX6_noAnswer_14 (by decide) ?_
    exact hr_eq (by rw [hz] <;> rfl) J15
  · rw [hm_bI_ne] at c7
    have hz : sp_w (sp_both sg p s) = 0 := by simp [sp_w, c7]
    refine hr_iconst (0) X dX6_noAnswer_10 (by decide) ?_
    refine hr_goto 15 X dX6_noAnswer_11 (by decide) ?_
    exact hr_eq (by rw [hz] <;> rfl) J15
set_option maxHeartbeats 4000000 in
set_option maxRecDepth 100000 in
theorem c_X6_answer (cA : Nat → ClassId) {sg ta : mm_S} {ad : Nat → Nat} {mo : Nat} {M0 M : hm_M} (hR : mm_R cA sg ta ad mo M0 M) (hI : sp_I sg) (p s : Int32) : hm_Met cA yX6_answer cX6_answer 3 (some .int) r_X6_answer [.ref mo, .int p, .int s] M (mm_P cA ad mo M0 (sp_w (sp_both sg p s)) (sg 13 (sp_k p s)) (sg)) := by
  refine hm_met 0 (by decide +kernel) (fun w h => by simp only [List.mem_cons, List.not_mem_nil, or_false] at h; rcases h with rfl | rfl | rfl <;> rfl) rfl (fun C X => ?_)
  show hm_W C 0 0 _ M 0 [some (.ref mo), some (.int p), some (.int s)] []
  refine hr_aload_n X dX6_answer_0 rfl (Or.inr ⟨_, rfl⟩) ?_
  refine hr_iload_n X dX6_answer_1 rfl ?_
  refine hr_iload_n X dX6_answer_2 rfl ?_
  refine hr_callV X kC6_209 dX6_answer_3 (c_X6_noAnswer cA hR p s) hR.1 rfl rfl rfl rfl (Nat.le_of_ble_eq_true rfl) ⟨⟨(Nat.le_of_ble_eq_true rfl), (Nat.le_of_ble_eq_true rfl)⟩, (Nat.le_of_ble_eq_true rfl), (Nat.le_of_ble_eq_true rfl)⟩ (fun v M3 hp3 => ?_)
  obtain ⟨hR, rfl⟩ := hp3
  refine hr_if_eq 13 X dX6_answer_6 (by decide) (fun c6 => ?_) (fun c6 => ?_)
  · rw [hm_bz] at c6
    have hc0 := sp_w_0.mp c6
    obtain ⟨a, b, ha, hb, hb4, rfl, rfl, e1, e2⟩ := sp_both_nat hI hc0
    have ek : sp_k (nI a) (nI b) = 12 * b + a := by rw [sp_k, e1, e2]
    have fin : ∀ q : sp_w (sp_both sg (nI a) (nI b)) = 0, sg 13 (12 * b + a) = sg 13 (sp_k (nI a) (nI b)) := fun _ => by rw [ek]
    refine hr_aload_n X dX6_answer_13 rfl (Or.inr ⟨_, rfl⟩) ?_
    refine mm_getA X kF6_44 dX6_answer_14 hR 13 rfl ?_
    refine hr_bipush (12) X dX6_answer_17 (by decide) ?_
    refine hr_iload_n X dX6_answer_19 rfl ?_
    refine hr_imul X dX6_answer_20 ?_
    refine hr_iload_n X dX6_answer_21 rfl ?_
    refine hr_iadd X dX6_answer_22 ?_
    refine mm_iald (12 * b + a) X dX6_answer_23 hR rfl (by simp only [mm_m2, mm_m3, mm_m4, mm_m5, mm_m12, mm_m16, nI_add, mm_a1, mm_a2, mm_a3, mm_a5, mm_a12, sp_e]) (by simp only [mm_len, sp_e]; omega) ?_
    exact hr_iret X dX6_answer_24 (Nat.le_of_ble_eq_true rfl) (Nat.le_of_ble_eq_true rfl) ⟨_, _, hR, rfl, mm_up_s, fin⟩
  · rw [hm_bz] at c6
    have fin : ∀ q : sp_w (sp_both sg p s) = 0, (0 : Int32) = sg 13 (sp_k (p) (s)) := fun q => absurd q c6
    refine hr_iconst (0) X dX6_answer_9 (by decide) ?_
    refine hr_goto 24 X dX6_answer_10 (by decide) ?_
    exact hr_iret X dX6_answer_24 (Nat.le_of_ble_eq_true rfl) (Nat.le_of_ble_eq_true rfl) ⟨_, _, hR, rfl, mm_up_s, fin⟩
set_option maxHeartbeats 4000000 in
set_option maxRecDepth 100000 in
theorem c_X6_told (cA : Nat → ClassId) {sg ta : mm_S} {ad : Nat → Nat} {mo : Nat} {M0 M : hm_M} (hR : mm_R cA sg ta ad mo M0 M) (hI : sp_I sg) (p s : Int32) : hm_Met cA yX6_told cX6_told 3 (some .int) r_X6_told [.ref mo, .int p, .int s] M (mm_P cA ad mo M0 (sp_w (sp_both sg p s)) (sg 16 (sp_k p s)) (sg)) := by
  refine hm_met 0 (by decide +kernel) (fun w h => by simp only [List.mem_cons, List.not_mem_nil, or_false] at h; rcases h with rfl | rfl | rfl <;> rfl) rfl (fun C X => ?_)
  show hm_W C 0 0 _ M 0 [some (.ref mo), some (.int p), some (.int s)] []
  refine hr_aload_n X dX6_told_0 rfl (Or.inr ⟨_, rfl⟩) ?_
  refine hr_iload_n X dX6_told_1 rfl ?_
  refine hr_iload_n X dX6_told_2 rfl ?_
  refine hr_callV X kC6_209 dX6_told_3 (c_X6_noAnswer cA hR p s) hR.1 rfl rfl rfl rfl (Nat.le_of_ble_eq_true rfl) ⟨⟨(Nat.le_of_ble_eq_true rfl), (Nat.le_of_ble_eq_true rfl)⟩, (Nat.le_of_ble_eq_true rfl), (Nat.le_of_ble_eq_true rfl)⟩ (fun v M3 hp3 => ?_)
  obtain ⟨hR, rfl⟩ := hp3
  refine hr_if_eq 13 X dX6_told_6 (by decide) (fun c6 => ?_) (fun c6 => ?_)
  · rw [hm_bz] at c6
    have hc0 := sp_w_0.mp c6
    obtain ⟨a, b, ha, hb, hb4, rfl, rfl, e1, e2⟩ := sp_both_nat hI hc0
    have ek : sp_k (nI a) (nI b) = 12 * b + a := by rw [sp_k, e1, e2]
    have fin : ∀ q : sp_w (sp_both sg (nI a) (nI b)) = 0, sg 16 (12 * b + a) = sg 16 (sp_k (nI a) (nI b)) := fun _ => by rw [ek]
    refine hr_aload_n X dX6_told_13 rfl (Or.inr ⟨_, rfl⟩) ?_
    refine mm_getA X kF6_53 dX6_told_14 hR 16 rfl ?_
    refine hr_bipush (12) X dX6_told_17 (by decide) ?_
    refine hr_iload_n X dX6_told_19 rfl ?_
    refine hr_imul X dX6_told_20 ?_
    refine hr_iload_n X dX6_told_21 rfl ?_
    refine hr_iadd X dX6_told_22 ?_
    refine mm_iald (12 * b + a) X dX6_told_23 hR rfl (by simp only [mm_m2, mm_m3, mm_m4, mm_m5, mm_m12, mm_m16, nI_add, mm_a1, mm_a2, mm_a3, mm_a5, mm_a12, sp_e]) (by simp only [mm_len, sp_e]; omega) ?_
    exact hr_iret X dX6_told_24 (Nat.le_of_ble_eq_true rfl) (Nat.le_of_ble_eq_true rfl) ⟨_, _, hR, rfl, mm_up_s, fin⟩
  · rw [hm_bz] at c6
    have fin : ∀ q : sp_w (sp_both sg p s) = 0, (0 : Int32) = sg 16 (sp_k (p) (s)) := fun q => absurd q c6
    refine hr_iconst (0) X dX6_told_9 (by decide) ?_
    refine hr_goto 24 X dX6_told_10 (by decide) ?_
    exact hr_iret X dX6_told_24 (Nat.le_of_ble_eq_true rfl) (Nat.le_of_ble_eq_true rfl) ⟨_, _, hR, rfl, mm_up_s, fin⟩
set_option maxHeartbeats 4000000 in
set_option maxRecDepth 100000 in
theorem c_X6_mark (cA : Nat → ClassId) {sg ta : mm_S} {ad : Nat → Nat} {mo : Nat} {M0 M : hm_M} (hR : mm_R cA sg ta ad mo M0 M) (hI : sp_I sg) (p s : Int32) : hm_Met cA yX6_mark cX6_mark 3 (some .int) r_X6_mark [.ref mo, .int p, .int s] M (mm_P cA ad mo M0 (sp_w (sp_both sg p s)) (sp_rMark sg (sp_k p s)) (sg)) := by
  refine hm_met 0 (by decide +kernel) (fun w h => by simp only [List.mem_cons, List.not_mem_nil, or_false] at h; rcases h with rfl | rfl | rfl <;> rfl) rfl (fun C X => ?_)
  show hm_W C 0 0 _ M 0 [some (.ref mo), some (.int p), some (.int s)] []
  refine hr_aload_n X dX6_mark_0 rfl (Or.inr ⟨_, rfl⟩) ?_
  refine hr_iload_n X dX6_mark_1 rfl ?_
  refine hr_iload_n X dX6_mark_2 rfl ?_
  refine hr_callV X kC6_209 dX6_mark_3 (c_X6_noAnswer cA hR p s) hR.1 rfl rfl rfl rfl (Nat.le_of_ble_eq_true rfl) ⟨⟨(Nat.le_of_ble_eq_true rfl), (Nat.le_of_ble_eq_true rfl)⟩, (Nat.le_of_ble_eq_true rfl), (Nat.le_of_ble_eq_true rfl)⟩ (fun v M3 hp3 => ?_)
  obtain ⟨hR, rfl⟩ := hp3
  refine hr_if_eq 13 X dX6_mark_6 (by decide) (fun c6 => ?_) (fun c6 => ?_)
  · rw [hm_bz] at c6
    have hc0 := sp_w_0.mp c6
    obtain ⟨a, b, ha, hb, hb4, rfl, rfl, e1, e2⟩ := sp_both_nat hI hc0
    have ek : sp_k (nI a) (nI b) = 12 * b + a := by rw [sp_k, e1, e2]
    refine hr_aload_n X dX6_mark_13 rfl (Or.inr ⟨_, rfl⟩) ?_
    refine mm_getA X kF6_44 dX6_mark_14 hR 13 rfl ?_
    refine hr_bipush (12) X dX6_mark_17 (by decide) ?_
    refine hr_iload_n X dX6_mark_19 rfl ?_
    refine hr_imul X dX6_mark_20 ?_
    refine hr_iload_n X dX6_mark_21 rfl ?_
    refine hr_iadd X dX6_mark_22 ?_
    refine mm_iald (12 * b + a) X dX6_mark_23 hR rfl (by simp only [mm_m2, mm_m3, mm_m4, mm_m5, mm_m12, mm_m16, nI_add, mm_a1, mm_a2, mm_a3, mm_a5, mm_a12, sp_e]) (by simp only [mm_len, sp_e]; omega) ?_
    refine hr_iconst (2) X dX6_mark_24 (by decide) ?_
    refine hr_icmp_ne 42 X dX6_mark_25 (by decide) (fun c25 => ?_) (fun c25 => ?_)
    · have fin : ∀ q : sp_w (sp_both sg (nI a) (nI b)) = 0, (-1 : Int32) = sp_rMark sg (sp_k (nI a) (nI b)) := fun _ => by rw [ek, sp_rMark, if_neg c25]
      refine hr_iconst (-1) X dX6_mark_42 (by decide) ?_
      exact hr_iret X dX6_mark_43 (Nat.le_of_ble_eq_true rfl) (Nat.le_of_ble_eq_true rfl) ⟨_, _, hR, rfl, mm_up_s, fin⟩
    · have fin : ∀ q : sp_w (sp_both sg (nI a) (nI b)) = 0, sg 15 (12 * b + a) = sp_rMark sg (sp_k (nI a) (nI b)) := fun _ => by rw [ek, sp_rMark, if_pos c25]
      refine hr_aload_n X dX6_mark_28 rfl (Or.inr ⟨_, rfl⟩) ?_
      refine mm_getA X kF6_50 dX6_mark_29 hR 15 rfl ?_
      refine hr_bipush (12) X dX6_mark_32 (by decide) ?_
      refine hr_iload_n X dX6_mark_34 rfl ?_
      refine hr_imul X dX6_mark_35 ?_
      refine hr_iload_n X dX6_mark_36 rfl ?_
      refine hr_iadd X dX6_mark_37 ?_
      refine mm_iald (12 * b + a) X dX6_mark_38 hR rfl (by simp only [mm_m2, mm_m3, mm_m4, mm_m5, mm_m12, mm_m16, nI_add, mm_a1, mm_a2, mm_a3, mm_a5, mm_a12, sp_e]) (by simp only [mm_len, sp_e]; omega) ?_
      refine hr_goto 43 X dX6_mark_39 (by decide) ?_
      exact hr_iret X dX6_mark_43 (Nat.le_of_ble_eq_true rfl) (Nat.le_of_ble_eq_true rfl) ⟨_, _, hR, rfl, mm_up_s, fin⟩
  · rw [hm_bz] at c6
    have fin : ∀ q : sp_w (sp_both sg p s) = 0, (0 : Int32) = sp_rMark sg (sp_k p s) := fun q => absurd q c6
    refine hr_iconst (0) X dX6_mark_9 (by decide) ?_
    refine hr_goto 43 X dX6_mark_10 (by decide) ?_
    exact hr_iret X dX6_mark_43 (Nat.le_of_ble_eq_true rfl) (Nat.le_of_ble_eq_true rfl) ⟨_, _, hR, rfl, mm_up_s, fin⟩
set_option maxHeartbeats 4000000 in
set_option maxRecDepth 100000 in
theorem c_X6_due (cA : Nat → ClassId) {sg ta : mm_S} {ad : Nat → Nat} {mo : Nat} {M0 M : hm_M} (hR : mm_R cA sg ta ad mo M0 M) (hI : sp_I sg) (p s : Int32) : hm_Met cA yX6_due cX6_due 3 (some .int) r_X6_due [.ref mo, .int p, .int s] M (mm_P cA ad mo M0 (sp_w (sp_both sg p s)) (sp_rDue sg (sp_k p s)) (sg)) := by
  refine hm_met 0 (by decide +kernel) (fun w h => by simp only [List.mem_cons, List.not_mem_nil, or_false] at h; rcases h with rfl | rfl | rfl <;> rfl) rfl (fun C X => ?_)
  show hm_W C 0 0 _ M 0 [some (.ref mo), some (.int p), some (.int s)] []
  refine hr_aload_n X dX6_due_0 rfl (Or.inr ⟨_, rfl⟩) ?_
  refine hr_iload_n X dX6_due_1 rfl ?_
  refine hr_iload_n X dX6_due_2 rfl ?_
  refine hr_callV X kC6_209 dX6_due_3 (c_X6_noAnswer cA hR p s) hR.1 rfl rfl rfl rfl (Nat.le_of_ble_eq_true rfl) ⟨⟨(Nat.le_of_ble_eq_true rfl), (Nat.le_of_ble_eq_true rfl)⟩, (Nat.le_of_ble_eq_true rfl), (Nat.le_of_ble_eq_true rfl)⟩ (fun v M3 hp3 => ?_)
  obtain ⟨hR, rfl⟩ := hp3
  refine hr_if_eq 13 X dX6_due_6 (by decide) (fun c6 => ?_) (fun c6 => ?_)
  · rw [hm_bz] at c6
    have hc0 := sp_w_0.mp c6
    obtain ⟨a, b, ha, hb, hb4, rfl, rfl, e1, e2⟩ := sp_both_nat hI hc0
    have ek : sp_k (nI a) (nI b) = 12 * b + a := by rw [sp_k, e1, e2]
    refine hr_aload_n X dX6_due_13 rfl (Or.inr ⟨_, rfl⟩) ?_
    refine mm_getA X kF6_44 dX6_due_14 hR 13 rfl ?_
    refine hr_bipush (12) X dX6_due_17 (by decide) ?_
    refine hr_iload_n X dX6_due_19 rfl ?_
    refine hr_imul X dX6_due_20 ?_
    refine hr_iload_n X dX6_due_21 rfl ?_
    refine hr_iadd X dX6_due_22 ?_
    refine mm_iald (12 * b + a) X dX6_due_23 hR rfl (by simp only [mm_m2, mm_m3, mm_m4, mm_m5, mm_m12, mm_m16, nI_add, mm_a1, mm_a2, mm_a3, mm_a5, mm_a12, sp_e]) (by simp only [mm_len, sp_e]; omega) ?_
    refine hr_if_ne 31 X dX6_due_24 (by decide) (fun c24 => ?_) (fun c24 => ?_)
    · have fin : ∀ q : sp_w (sp_both sg (nI a) (nI b)) = 0, sp_due sg (12 * b + a) = sp_rDue sg (sp_k (nI a) (nI b)) := fun _ => by rw [ek, sp_rDue, if_neg c24]
      obtain ⟨hks, v, hv, hvt⟩ := sp_handed hI (k := 12 * b + a) (by omega) c24
      refine hr_aload_n X dX6_due_31 rfl (Or.inr ⟨_, rfl⟩) ?_
      refine hr_bipush (12) X dX6_due_32 (by decide) ?_
      refine hr_iload_n X dX6_due_34 rfl ?_
      refine hr_imul X dX6_due_35 ?_
      refine hr_iload_n X dX6_due_36 rfl ?_
      refine hr_iadd X dX6_due_37 ?_
      rw [show (12 * nI b + nI a : Int32) = nI (12 * b + a) by rw [mm_m12, nI_add]]
      refine hr_callV X kC6_180 dX6_due_38 (c_X6_dueOf cA hR hI (12 * b + a) v (by omega) hks hv hvt) hR.1 rfl rfl rfl rfl (Nat.le_of_ble_eq_true rfl) ⟨⟨(Nat.le_of_ble_eq_true rfl), (Nat.le_of_ble_eq_true rfl)⟩, (Nat.le_of_ble_eq_true rfl), (Nat.le_of_ble_eq_true rfl)⟩ (fun v M38 hp38 => ?_)
      obtain ⟨ta1, hR, rfl, hta1⟩ := hp38
      exact hr_iret X dX6_due_41 (Nat.le_of_ble_eq_true rfl) (Nat.le_of_ble_eq_true rfl) (by first
          | exact ⟨_, _, hR, rfl, by rw [hta1 0 (by decide)]; exact mm_up_s, fin⟩
          | exact ⟨_, _, hR, rfl, mm_up_s, fin⟩)
    · have fin : ∀ q : sp_w (sp_both sg (nI a) (nI b)) = 0, (-1 : Int32) = sp_rDue sg (sp_k (nI a) (nI b)) := fun _ => by rw [ek, sp_rDue, if_pos c24]
      have hta1 : ∀ j, j ≠ 22 → mm_up ta 0 0 (sp_w (sp_both sg (nI a) (nI b))) j = mm_up ta 0 0 (sp_w (sp_both sg (nI a) (nI b))) j := fun _ _ => rfl
      refine hr_iconst (-1) X dX6_due_27 (by decide) ?_
      refine hr_goto 41 X dX6_due_28 (by decide) ?_
      exact hr_iret X dX6_due_41 (Nat.le_of_ble_eq_true rfl) (Nat.le_of_ble_eq_true rfl) (by first
          | exact ⟨_, _, hR, rfl, by rw [hta1 0 (by decide)]; exact mm_up_s, fin⟩
          | exact ⟨_, _, hR, rfl, mm_up_s, fin⟩)
  · rw [hm_bz] at c6
    have fin : ∀ q : sp_w (sp_both sg p s) = 0, (0 : Int32) = sp_rDue sg (sp_k p s) := fun q => absurd q c6
    refine hr_iconst (0) X dX6_due_9 (by decide) ?_
    refine hr_goto 41 X dX6_due_10 (by decide) ?_
    exact hr_iret X dX6_due_41 (Nat.le_of_ble_eq_true rfl) (Nat.le_of_ble_eq_true rfl) (by first
        | exact ⟨_, _, hR, rfl, by rw [hta1 0 (by decide)]; exact mm_up_s, fin⟩
        | exact ⟨_, _, hR, rfl, mm_up_s, fin⟩)
