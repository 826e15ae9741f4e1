theorem sp_thDrop_0 {sg : mm_S} {g s t : Int32} (h : sp_thDrop sg g s t = 0) : sp_name sg g s t = true ∧ (sp_hasB (sp_has sg (nN s) (nN (sg 10 (4 * nN s + nN g))) (nN t)) && sp_canRev sg (nN g) (nN s) 1) = true := by
  unfold sp_thDrop at h
  by_cases h1 : sp_name sg g s t = true
  · rw [if_pos h1] at h
    refine ⟨h1, ?_⟩
    by_cases h2 : (sp_hasB (sp_has sg (nN s) (nN (sg 10 (4 * nN s + nN g))) (nN t)) && sp_canRev sg (nN g) (nN s) 1) = true
    · exact h2
    · rw [if_neg h2] at h
      exact absurd h (by decide)
  · rw [if_neg h1] at h
    exact absurd h (by decide)
set_option maxHeartbeats 4000000 in
set_option maxRecDepth 100000 in
theorem c_X6_drop (cA : Nat → ClassId) {sg ta : mm_S} {ad : Nat → Nat} {mo : Nat} {M0 M : hm_M} (hR : mm_R cA sg ta ad mo M0 M) (hI : sp_I sg) (g s t : Int32) : hm_Met cA yX6_drop cX6_drop 6 (some .int) r_X6_drop [.ref mo, .int g, .int s, .int t] M (mm_P cA ad mo M0 (sp_thDrop sg g s t) (sg 5 (nN s)) (if sp_thDrop sg g s t = 0 then sp_rev sg (nN g) (nN s) (nN t) 3 0 0 0 else sg)) := by
  refine hm_met 2 (by decide +kernel) (fun w h => by simp only [List.mem_cons, List.not_mem_nil, or_false] at h; rcases h with rfl | rfl | rfl | rfl <;> rfl) rfl (fun C X => ?_)
  show hm_W C 0 0 _ M 0 [some (.ref mo), some (.int g), some (.int s), some (.int t), none, none] []
  refine hr_aload_n X dX6_drop_0 rfl (Or.inr ⟨_, rfl⟩) ?_
  refine hr_iload_n X dX6_drop_1 rfl ?_
  refine hr_iload_n X dX6_drop_2 rfl ?_
  refine hr_iload_n X dX6_drop_3 rfl ?_
  refine hr_callV X kC6_133 dX6_drop_4 (c_X6_canName cA hR g s t) hR.1 rfl rfl rfl rfl (Nat.le_of_ble_eq_true rfl) ⟨⟨(Nat.le_of_ble_eq_true rfl), (Nat.le_of_ble_eq_true rfl)⟩, (Nat.le_of_ble_eq_true rfl), (Nat.le_of_ble_eq_true rfl)⟩ (fun v M4 hp => ?_)
  obtain ⟨rfl, rfl⟩ := hp
  refine hr_istore X dX6_drop_7 (Nat.le_of_ble_eq_true rfl) ?_
  have J49 : hm_W C 0 0 (hm_T C (mm_P cA ad mo M0 (sp_thDrop sg g s t) (sg 5 (nN s)) (if sp_thDrop sg g s t = 0 then sp_rev sg (nN g) (nN s) (nN t) 3 0 0 0 else sg)) r_X6_drop.cells r_X6_drop.slots) M 49 [some (.ref mo), some (.int g), some (.int s), some (.int t), some (.int (hm_bI (sp_name sg g s t))), none] [.int (hm_bI (sp_name sg g s t && (sp_hasB (sp_has sg (nN s) (nN (sg 10 (4 * nN s + nN g))) (nN t)) && sp_canRev sg (nN g) (nN s) 1)))] := by
    refine hr_istore X dX6_drop_49 (Nat.le_of_ble_eq_true rfl) ?_
    have J71 : hm_W C 0 0 (hm_T C (mm_P cA ad mo M0 (sp_thDrop sg g s t) (sg 5 (nN s)) (if sp_thDrop sg g s t = 0 then sp_rev sg (nN g) (nN s) (nN t) 3 0 0 0 else sg)) r_X6_drop.cells r_X6_drop.slots) M 71 [some (.ref mo), some (.int g), some (.int s), some (.int t), some (.int (hm_bI (sp_name sg g s t))), some (.int (hm_bI (sp_name sg g s t && (sp_hasB (sp_has sg (nN s) (nN (sg 10 (4 * nN s + nN g))) (nN t)) && sp_canRev sg (nN g) (nN s) 1))))] [.int (sp_thDrop sg g s t), .ref mo] := by
      refine hr_callV X kC6_120 dX6_drop_71 (c_X6_refused cA hR (sp_thDrop sg g s t)) hR.1 rfl rfl rfl rfl (Nat.le_of_ble_eq_true rfl) ⟨⟨(Nat.le_of_ble_eq_true rfl), (Nat.le_of_ble_eq_true rfl)⟩, (Nat.le_of_ble_eq_true rfl), (Nat.le_of_ble_eq_true rfl)⟩ (fun v M71 hp71 => ?_)
      obtain ⟨hR, rfl⟩ := hp71
      refine hr_if_eq 79 X dX6_drop_74 (by decide) (fun c74 => ?_) (fun c74 => ?_)
      · rw [hm_bz] at c74
        rw [if_pos c74]
        obtain ⟨hn, hc⟩ := sp_thDrop_0 c74
        obtain ⟨g, s, t, hg, hs, hs4, ht, rfl, rfl, rfl⟩ := sp_name_nat hI hn
        have e1 : nN (nI g) = g := nI_clamp (by omega)
        have e2 : nN (nI s) = s := nI_clamp (by omega)
        have e3 : nN (nI t) = t := nI_clamp (by omega)
        rw [Bool.and_eq_true, e1, e2] at hc
        have hc := hc.2
        simp only [sp_canRev, Bool.and_eq_true, Bool.not_eq_true', decide_eq_false_iff_not] at hc
        obtain ⟨m, hm1, hm16, hm, -⟩ := sp_made hI hs hc.1
        refine hr_aload_n X dX6_drop_79 rfl (Or.inr ⟨_, rfl⟩) ?_
        refine hr_iload_n X dX6_drop_80 rfl ?_
        refine hr_iload_n X dX6_drop_81 rfl ?_
        refine hr_iload_n X dX6_drop_82 rfl ?_
        refine hr_iconst (3) X dX6_drop_83 (by decide) ?_
        refine hr_iconst (0) X dX6_drop_84 (by decide) ?_
        refine hr_iconst (0) X dX6_drop_85 (by decide) ?_
        refine hr_iconst (0) X dX6_drop_86 (by decide) ?_
        refine hr_callV X kC6_139 dX6_drop_87 (c_X6_revise cA hR g s t m hg hs4 ht hm hm16 3 0 0 0) hR.1 rfl rfl rfl rfl (Nat.le_of_ble_eq_true rfl) ⟨⟨(Nat.le_of_ble_eq_true rfl), (Nat.le_of_ble_eq_true rfl)⟩, (Nat.le_of_ble_eq_true rfl), (Nat.le_of_ble_eq_true rfl)⟩ (fun v M87 hp87 => ?_)
        obtain ⟨hR, rfl⟩ := hp87
        exact hr_iret X dX6_drop_90 (Nat.le_of_ble_eq_true rfl) (Nat.le_of_ble_eq_true rfl) ⟨_, _, by rw [e1, e2, e3]; exact hR, rfl, mm_up_s, fun _ => by rw [e2]⟩
      · rw [hm_bz] at c74
        rw [if_neg c74]
        refine hr_iconst (0) X dX6_drop_77 (by decide) ?_
        exact hr_iret X dX6_drop_78 (Nat.le_of_ble_eq_true rfl) (Nat.le_of_ble_eq_true rfl) ⟨_, _, hR, rfl, mm_up_s, fun q => absurd q c74⟩
    refine hr_aload_n X dX6_drop_51 rfl (Or.inr ⟨_, rfl⟩) ?_
    refine hr_iload X dX6_drop_52 rfl ?_
    refine hr_if_ne 61 X dX6_drop_54 (by decide) (fun c54 => ?_) (fun c54 => ?_)
    · rw [hm_bI_ne] at c54
      refine hr_iload X dX6_drop_61 rfl ?_
      refine hr_if_eq 70 X dX6_drop_63 (by decide) (fun c63 => ?_) (fun c63 => ?_)
      · rw [hm_bI_eq] at c63
        rw [c54, Bool.true_and] at c63
        have hz : sp_thDrop sg g s t = 2 := by rw [sp_thDrop, if_pos c54, c63]; rfl
        refine hr_iconst (2) X dX6_drop_70 (by decide) ?_
        exact hr_eq (by rw [hz] <;> rfl) J71
      · rw [hm_bI_ne] at c63
        rw [c54, Bool.true_and] at c63
        have hz : sp_thDrop sg g s t = 0 := by rw [sp_thDrop, if_pos c54, c63]; rfl
        refine hr_iconst (0) X dX6_drop_66 (by decide) ?_
        refine hr_goto 71 X dX6_drop_67 (by decide) ?_
        exact hr_eq (by rw [hz] <;> rfl) J71
    · rw [hm_bI_eq] at c54
      have hz : sp_thDrop sg g s t = 1 := by simp [sp_thDrop, c54]
      refine hr_iconst (1) X dX6_drop_57 (by decide) ?_
      refine hr_goto 71 X dX6_drop_58 (by decide) ?_
      exact hr_eq (by rw [hz] <;> rfl) J71
  refine hr_iload X dX6_drop_9 rfl ?_
  refine hr_if_eq 48 X dX6_drop_11 (by decide) (fun c11 => ?_) (fun c11 => ?_)
  · rw [hm_bI_eq] at c11
    have hz : (sp_name sg g s t && (sp_hasB (sp_has sg (nN s) (nN (sg 10 (4 * nN s + nN g))) (nN t)) && sp_canRev sg (nN g) (nN s) 1)) = false := by simp [c11]
    refine hr_iconst (0) X dX6_drop_48 (by decide) ?_
    exact hr_eq (by rw [hz] <;> rfl) J49
  · rw [hm_bI_ne] at c11
    obtain ⟨g, s, t, hg, hs, hs4, ht, rfl, rfl, rfl⟩ := sp_name_nat hI c11
    have e1 : nN (nI g) = g := nI_clamp (by omega)
    have e2 : nN (nI s) = s := nI_clamp (by omega)
    have e3 : nN (nI t) = t := nI_clamp (by omega)
    obtain ⟨v, hv, hvt⟩ := hI.i7 s g hs hg
    have e4 : nN (nI v) = v := nI_clamp (by have := hvt.1; omega)
    refine hr_aload_n X dX6_drop_14 rfl (Or.inr ⟨_, rfl⟩) ?_
    refine hr_iload_n X dX6_drop_15 rfl ?_
    refine hr_aload_n X dX6_drop_16 rfl (Or.inr ⟨_, rfl⟩) ?_
    refine mm_getA X kF6_35 dX6_drop_17 hR 10 rfl ?_
    refine hr_iconst (4) X dX6_drop_20 (by decide) ?_
    refine hr_iload_n X dX6_drop_21 rfl ?_
    refine hr_imul X dX6_drop_22 ?_
    refine hr_iload_n X dX6_drop_23 rfl ?_
    refine hr_iadd X dX6_drop_24 ?_
    refine mm_iald (4 * s + g) X dX6_drop_25 hR rfl (by simp only [mm_m2, mm_m3, mm_m4, mm_m5, mm_m12, mm_m16, nI_add, mm_a1, mm_a2, mm_a3, mm_a5, mm_a12, sp_e]) (by simp only [mm_len, sp_e]; omega) ?_
    rw [hv]
    refine hr_iload_n X dX6_drop_26 rfl ?_
    refine hr_callV X kC6_146 dX6_drop_27 (c_X6_has cA hR hI s v t hs hvt ht) hR.1 rfl rfl rfl rfl (Nat.le_of_ble_eq_true rfl) ⟨⟨(Nat.le_of_ble_eq_true rfl), (Nat.le_of_ble_eq_true rfl)⟩, (Nat.le_of_ble_eq_true rfl), (Nat.le_of_ble_eq_true rfl)⟩ (fun v M27 hp => ?_)
    obtain ⟨rfl, rfl⟩ := hp
    refine hr_iconst (-1) X dX6_drop_30 (by decide) ?_
    refine hr_icmp_eq 48 X dX6_drop_31 (by decide) (fun c31 => ?_) (fun c31 => ?_)
    · have hq : sp_has sg s v t = none := Option.map_eq_none_iff.mp (sp_o_none (fun u h => by
        obtain ⟨w, h1, rfl⟩ := Option.map_eq_some_iff.mp h
        have := (sp_has_some hI hs hvt h1).1.1
        simp only [sp_e]
        omega) c31)
      have hz : (sp_name sg (nI g) (nI s) (nI t) && (sp_hasB (sp_has sg (nN (nI s)) (nN (sg 10 (4 * nN (nI s) + nN (nI g)))) (nN (nI t))) && sp_canRev sg (nN (nI g)) (nN (nI s)) 1)) = false := by rw [e1, e2, e3, hv, e4, hq]; simp [sp_hasB]
      refine hr_iconst (0) X dX6_drop_48 (by decide) ?_
      exact hr_eq (by rw [hz] <;> rfl) J49
    · obtain ⟨w, hw⟩ := sp_o_some c31
      obtain ⟨u, hq, -⟩ := Option.map_eq_some_iff.mp hw
      refine hr_aload_n X dX6_drop_34 rfl (Or.inr ⟨_, rfl⟩) ?_
      refine hr_iload_n X dX6_drop_35 rfl ?_
      refine hr_iload_n X dX6_drop_36 rfl ?_
      refine hr_iconst (1) X dX6_drop_37 (by decide) ?_
      refine hr_callV X kC6_136 dX6_drop_38 (c_X6_canRevise cA hR s g hs4 hg 1) hR.1 rfl rfl rfl rfl (Nat.le_of_ble_eq_true rfl) ⟨⟨(Nat.le_of_ble_eq_true rfl), (Nat.le_of_ble_eq_true rfl)⟩, (Nat.le_of_ble_eq_true rfl), (Nat.le_of_ble_eq_true rfl)⟩ (fun v M38 hp => ?_)
      obtain ⟨rfl, rfl⟩ := hp
      refine hr_if_eq 48 X dX6_drop_41 (by decide) (fun c41 => ?_) (fun c41 => ?_)
      · rw [hm_bI_eq] at c41
        have hz : (sp_name sg (nI g) (nI s) (nI t) && (sp_hasB (sp_has sg (nN (nI s)) (nN (sg 10 (4 * nN (nI s) + nN (nI g)))) (nN (nI t))) && sp_canRev sg (nN (nI g)) (nN (nI s)) 1)) = false := by rw [e1, e2, e3, hv, e4, show sp_canRev sg g s 1 = false from c41]; simp
        refine hr_iconst (0) X dX6_drop_48 (by decide) ?_
        exact hr_eq (by rw [hz] <;> rfl) J49
      · rw [hm_bI_ne] at c41
        have hz : (sp_name sg (nI g) (nI s) (nI t) && (sp_hasB (sp_has sg (nN (nI s)) (nN (sg 10 (4 * nN (nI s) + nN (nI g)))) (nN (nI t))) && sp_canRev sg (nN (nI g)) (nN (nI s)) 1)) = true := by rw [e1, e2, e3, hv, e4, hq, show sp_canRev sg g s 1 = true from c41, c11]; rfl
        refine hr_iconst (1) X dX6_drop_44 (by decide) ?_
        refine hr_goto 49 X dX6_drop_45 (by decide) ?_
        exact hr_eq (by rw [hz] <;> rfl) J49
set_option maxHeartbeats 4000000 in
set_option maxRecDepth 100000 in
theorem c_X6_adopt (cA : Nat → ClassId) {sg ta : mm_S} {ad : Nat → Nat} {mo : Nat} {M0 M : hm_M} (hR : mm_R cA sg ta ad mo M0 M) (hI : sp_I sg) (g s v : Int32) : hm_Met cA yX6_adopt cX6_adopt 5 (some .int) r_X6_adopt [.ref mo, .int g, .int s, .int v] M (mm_P cA ad mo M0 (sp_thAdopt sg g s v) (sg 10 (4 * nN s + nN g)) (if sp_thAdopt sg g s v = 0 then mm_up sg 10 (4 * nN s + nN g) v else sg)) := by
  refine hm_met 1 (by decide +kernel) (fun w h => by simp only [List.mem_cons, List.not_mem_nil, or_false] at h; rcases h with rfl | rfl | rfl | rfl <;> rfl) rfl (fun C X => ?_)
  show hm_W C 0 0 _ M 0 [some (.ref mo), some (.int g), some (.int s), some (.int v), none] []
  refine hr_aload_n X dX6_adopt_0 rfl (Or.inr ⟨_, rfl⟩) ?_
  have J22 : hm_W C 0 0 (hm_T C (mm_P cA ad mo M0 (sp_thAdopt sg g s v) (sg 10 (4 * nN s + nN g)) (if sp_thAdopt sg g s v = 0 then mm_up sg 10 (4 * nN s + nN g) v else sg)) r_X6_adopt.cells r_X6_adopt.slots) M 22 [some (.ref mo), some (.int g), some (.int s), some (.int v), none] [.int (sp_thAdopt sg g s v), .ref mo] := by
    refine hr_callV X kC6_120 dX6_adopt_22 (c_X6_refused cA hR (sp_thAdopt sg g s v)) hR.1 rfl rfl rfl rfl (Nat.le_of_ble_eq_true rfl) ⟨⟨(Nat.le_of_ble_eq_true rfl), (Nat.le_of_ble_eq_true rfl)⟩, (Nat.le_of_ble_eq_true rfl), (Nat.le_of_ble_eq_true rfl)⟩ (fun v M22 hp22 => ?_)
    obtain ⟨hR, rfl⟩ := hp22
    refine hr_if_eq 30 X dX6_adopt_25 (by decide) (fun c25 => ?_) (fun c25 => ?_)
    · rw [hm_bz] at c25
      rw [if_pos c25]
      have hc := sp_w_0.mp c25
      rw [Bool.and_eq_true] at hc
      obtain ⟨g, hg, rfl⟩ := sp_in_g hc.1
      obtain ⟨a, b, ha, ha4, rfl, rfl, hb⟩ := sp_isV_nat hI hc.2
      have e1 : nN (nI a) = a := nI_clamp (by omega)
      have hb16 := hb.1
      have e2 : nN (nI b) = b := nI_clamp (by omega)
      have e3 : nN (nI g) = g := nI_clamp (by omega)
      refine hr_aload_n X dX6_adopt_30 rfl (Or.inr ⟨_, rfl⟩) ?_
      refine mm_getA X kF6_35 dX6_adopt_31 hR 10 rfl ?_
      refine hr_iconst (4) X dX6_adopt_34 (by decide) ?_
      refine hr_iload_n X dX6_adopt_35 rfl ?_
      refine hr_imul X dX6_adopt_36 ?_
      refine hr_iload_n X dX6_adopt_37 rfl ?_
      refine hr_iadd X dX6_adopt_38 ?_
      refine mm_iald (4 * a + g) X dX6_adopt_39 hR rfl (by simp only [mm_m2, mm_m3, mm_m4, mm_m5, mm_m12, mm_m16, nI_add, mm_a1, mm_a2, mm_a3, mm_a5, mm_a12, sp_e]) (by simp only [mm_len, sp_e]; omega) ?_
      refine hr_istore X dX6_adopt_40 (Nat.le_of_ble_eq_true rfl) ?_
      refine hr_aload_n X dX6_adopt_42 rfl (Or.inr ⟨_, rfl⟩) ?_
      refine mm_getA X kF6_35 dX6_adopt_43 hR 10 rfl ?_
      refine hr_iconst (4) X dX6_adopt_46 (by decide) ?_
      refine hr_iload_n X dX6_adopt_47 rfl ?_
      refine hr_imul X dX6_adopt_48 ?_
      refine hr_iload_n X dX6_adopt_49 rfl ?_
      refine hr_iadd X dX6_adopt_50 ?_
      refine hr_iload_n X dX6_adopt_51 rfl ?_
      refine mm_iast (4 * a + g) X dX6_adopt_52 hR rfl (by simp only [mm_m2, mm_m3, mm_m4, mm_m5, mm_m12, mm_m16, nI_add, mm_a1, mm_a2, mm_a3, mm_a5, mm_a12, sp_e]) (by simp only [mm_len, sp_e]; omega) (fun M52 hR => ?_)
      refine hr_iload X dX6_adopt_53 rfl ?_
      exact hr_iret X dX6_adopt_55 (Nat.le_of_ble_eq_true rfl) (Nat.le_of_ble_eq_true rfl) ⟨_, _, by rw [e1, e3]; exact hR, rfl, mm_up_s, fun _ => by rw [e1, e3]⟩
    · rw [hm_bz] at c25
      rw [if_neg c25]
      refine hr_iconst (0) X dX6_adopt_28 (by decide) ?_
      exact hr_iret X dX6_adopt_29 (Nat.le_of_ble_eq_true rfl) (Nat.le_of_ble_eq_true rfl) ⟨_, _, hR, rfl, mm_up_s, fun q => absurd q c25⟩
  refine hr_iload_n X dX6_adopt_1 rfl ?_
  refine hr_callS X kC6_127 dX6_adopt_2 (c_X6_isClass cA (M := M) g) rfl rfl rfl (Nat.le_of_ble_eq_true rfl) ⟨⟨(Nat.le_of_ble_eq_true rfl), (Nat.le_of_ble_eq_true rfl)⟩, (Nat.le_of_ble_eq_true rfl), (Nat.le_of_ble_eq_true rfl)⟩ (fun v M2 hp => ?_)
  obtain ⟨rfl, rfl⟩ := hp
  refine hr_if_eq 21 X dX6_adopt_5 (by decide) (fun c5 => ?_) (fun c5 => ?_)
  · rw [hm_bI_eq] at c5
    have hz : sp_thAdopt sg g s v = 1 := by simp [sp_thAdopt, sp_w, c5]
    refine hr_iconst (1) X dX6_adopt_21 (by decide) ?_
    exact hr_eq (by rw [hz] <;> rfl) J22
  · rw [hm_bI_ne] at c5
    refine hr_aload_n X dX6_adopt_8 rfl (Or.inr ⟨_, rfl⟩) ?_
    refine hr_iload_n X dX6_adopt_9 rfl ?_
    refine hr_iload_n X dX6_adopt_10 rfl ?_
    refine hr_callV X kC6_149 dX6_adopt_11 (c_X6_isVersion cA hR hI s v) hR.1 rfl rfl rfl rfl (Nat.le_of_ble_eq_true rfl) ⟨⟨(Nat.le_of_ble_eq_true rfl), (Nat.le_of_ble_eq_true rfl)⟩, (Nat.le_of_ble_eq_true rfl), (Nat.le_of_ble_eq_true rfl)⟩ (fun v M11 hp => ?_)
    obtain ⟨rfl, rfl⟩ := hp
    refine hr_if_eq 21 X dX6_adopt_14 (by decide) (fun c14 => ?_) (fun c14 => ?_)
    · rw [hm_bI_eq] at c14
      have hz : sp_thAdopt sg g s v = 1 := by simp [sp_thAdopt, sp_w, c14]
      refine hr_iconst (1) X dX6_adopt_21 (by decide) ?_
      exact hr_eq (by rw [hz] <;> rfl) J22
    · rw [hm_bI_ne] at c14
      have hz : sp_thAdopt sg g s v = 0 := by simp [sp_thAdopt, sp_w, c5, c14]
      refine hr_iconst (0) X dX6_adopt_17 (by decide) ?_
      refine hr_goto 22 X dX6_adopt_18 (by decide) ?_
      exact hr_eq (by rw [hz] <;> rfl) J22
set_option maxHeartbeats 4000000 in
set_option maxRecDepth 100000 in
theorem c_X6_noSheet (cA : Nat → ClassId) {sg ta : mm_S} {ad : Nat → Nat} {mo : Nat} {M0 M : hm_M} (hR : mm_R cA sg ta ad mo M0 M) (s : Int32) : hm_Met cA yX6_noSheet cX6_noSheet 2 (some .boolean) r_X6_noSheet [.ref mo, .int s] M (fun r9 M' => mm_R cA sg (mm_up ta 0 0 (sp_w (sp_isS sg s))) ad mo M0 M' ∧ r9 = some (.int (hm_bI (!decide ((sp_w (sp_isS sg s)) = 0))))) := by
  refine hm_met 0 (by decide +kernel) (fun w h => by simp only [List.mem_cons, List.not_mem_nil, or_false] at h; rcases h with rfl | rfl <;> rfl) rfl (fun C X => ?_)
  show hm_W C 0 0 _ M 0 [some (.ref mo), some (.int s)] []
  refine hr_aload_n X dX6_noSheet_0 rfl (Or.inr ⟨_, rfl⟩) ?_
  have J14 : hm_W C 0 0 (hm_T C (fun r9 M' => mm_R cA sg (mm_up ta 0 0 (sp_w (sp_isS sg s))) ad mo M0 M' ∧ r9 = some (.int (hm_bI (!decide ((sp_w (sp_isS sg s)) = 0))))) r_X6_noSheet.cells r_X6_noSheet.slots) M 14 [some (.ref mo), some (.int s)] [.int (sp_w (sp_isS sg s)), .ref mo] := by
    refine hr_callV X kC6_120 dX6_noSheet_14 (c_X6_refused cA hR (sp_w (sp_isS sg s))) hR.1 rfl rfl rfl rfl (Nat.le_of_ble_eq_true rfl) ⟨⟨(Nat.le_of_ble_eq_true rfl), (Nat.le_of_ble_eq_true rfl)⟩, (Nat.le_of_ble_eq_true rfl), (Nat.le_of_ble_eq_true rfl)⟩ (fun v M14 hp14 => ?_)
    obtain ⟨hR, rfl⟩ := hp14
    exact hr_zret X dX6_noSheet_17 (hm_bIz _) (Nat.le_of_ble_eq_true rfl) (Nat.le_of_ble_eq_true rfl) ⟨hR, rfl⟩
  refine hr_aload_n X dX6_noSheet_1 rfl (Or.inr ⟨_, rfl⟩) ?_
  refine hr_iload_n X dX6_noSheet_2 rfl ?_
  refine hr_callV X kC6_94 dX6_noSheet_3 (c_X6_isSheet cA hR s) hR.1 rfl rfl rfl rfl (Nat.le_of_ble_eq_true rfl) ⟨⟨(Nat.le_of_ble_eq_true rfl), (Nat.le_of_ble_eq_true rfl)⟩, (Nat.le_of_ble_eq_true rfl), (Nat.le_of_ble_eq_true rfl)⟩ (fun v M3 hp => ?_)
  obtain ⟨rfl, rfl⟩ := hp
  refine hr_if_eq 13 X dX6_noSheet_6 (by decide) (fun c6 => ?_) (fun c6 => ?_)
  · rw [hm_bI_eq] at c6
    have hz : sp_w (sp_isS sg s) = 1 := by simp [sp_w, c6]
    refine hr_iconst (1) X dX6_noSheet_13 (by decide) ?_
    exact hr_eq (by rw [hz] <;> rfl) J14
  · rw [hm_bI_ne] at c6
    have hz : sp_w (sp_isS sg s) = 0 := by simp [sp_w, c6]
    refine hr_iconst (0) X dX6_noSheet_9 (by decide) ?_
    refine hr_goto 14 X dX6_noSheet_10 (by decide) ?_
    exact hr_eq (by rw [hz] <;> rfl) J14
set_option maxHeartbeats 4000000 in
set_option maxRecDepth 100000 in
theorem c_X6_versions (cA : Nat → ClassId) {sg ta : mm_S} {ad : Nat → Nat} {mo : Nat} {M0 M : hm_M} (hR : mm_R cA sg ta ad mo M0 M) (hI : sp_I sg) (s : Int32) : hm_Met cA yX6_versions cX6_versions 4 (some .int) r_X6_versions [.ref mo, .int s] M (mm_P cA ad mo M0 (sp_w (sp_isS sg s)) (sp_vers sg (nN s)) (sg)) := by
  refine hm_met 2 (by decide +kernel) (fun w h => by simp only [List.mem_cons, List.not_mem_nil, or_false] at h; rcases h with rfl | rfl <;> rfl) rfl (fun C X => ?_)
  show hm_W C 0 0 _ M 0 [some (.ref mo), some (.int s), none, none] []
  refine hr_aload_n X dX6_versions_0 rfl (Or.inr ⟨_, rfl⟩) ?_
  refine hr_iload_n X dX6_versions_1 rfl ?_
  refine hr_callV X kC6_165 dX6_versions_2 (c_X6_noSheet cA hR s) hR.1 rfl rfl rfl rfl (Nat.le_of_ble_eq_true rfl) ⟨⟨(Nat.le_of_ble_eq_true rfl), (Nat.le_of_ble_eq_true rfl)⟩, (Nat.le_of_ble_eq_true rfl), (Nat.le_of_ble_eq_true rfl)⟩ (fun v M2 hp2 => ?_)
  obtain ⟨hR, rfl⟩ := hp2
  refine hr_if_eq 10 X dX6_versions_5 (by decide) (fun c5 => ?_) (fun c5 => ?_)
  · rw [hm_bz] at c5
    have hc := sp_w_0.mp c5
    obtain ⟨a, ha, ha4, rfl⟩ := sp_isS_nat hI hc
    have e1 : nN (nI a) = a := nI_clamp (by omega)
    refine hr_iconst (0) X dX6_versions_10 (by decide) ?_
    refine hr_istore_n X dX6_versions_11 (Nat.le_of_ble_eq_true rfl) ?_
    refine hr_iconst (0) X dX6_versions_12 (by decide) ?_
    refine hr_istore_n X dX6_versions_13 (Nat.le_of_ble_eq_true rfl) ?_
    have lp14 : ∀ (f : Nat) (n : Nat), 16 < n + f → n ≤ 16 → hm_W C (0 + r_X6_noSheet.cells) (0 + r_X6_noSheet.slots) (hm_T C (mm_P cA ad mo M0 (sp_w (sp_isS sg (nI a))) (sp_vers sg (nN (nI a))) (sg)) r_X6_versions.cells r_X6_versions.slots) M2 14 [some (.ref mo), some (.int (nI a)), some (.int (sp_is (fun v => if sg 2 (16 * a + v) = 0 then (0 : Int32) else 1) n)), some (.int (nI n))] [] := by
      intro f
      induction f with
      | zero => intro n h1 h2; exact absurd h1 (by omega)
      | succ f ih =>
        intro n h1 h2
        refine hr_iload_n X dX6_versions_14 rfl ?_
        refine hr_bipush (16) X dX6_versions_15 (by decide) ?_
        refine hr_icmp_ge 48 X dX6_versions_17 (by decide) (fun c17 => ?_) (fun c17 => ?_)
        · have hz : n = 16 := by have := (nI_leI (a := 16) (by decide) (by omega)).mp c17; omega
          subst hz
          refine hr_iload_n X dX6_versions_48 rfl ?_
          exact hr_iret X dX6_versions_49 (Nat.le_of_ble_eq_true rfl) (Nat.le_of_ble_eq_true rfl) ⟨_, _, hR, rfl, mm_up_s, fun _ => by rw [e1]; rfl⟩
        · have hn : n < 16 := by
            rcases Nat.lt_or_ge n 16 with q | q
            · exact q
            · exact absurd (nI_le q (by omega)) c17
          refine hr_iload_n X dX6_versions_20 rfl ?_
          refine hr_aload_n X dX6_versions_21 rfl (Or.inr ⟨_, rfl⟩) ?_
          refine mm_getA X kF6_7 dX6_versions_22 hR 2 rfl ?_
          refine hr_bipush (16) X dX6_versions_25 (by decide) ?_
          refine hr_iload_n X dX6_versions_27 rfl ?_
          refine hr_imul X dX6_versions_28 ?_
          refine hr_iload_n X dX6_versions_29 rfl ?_
          refine hr_iadd X dX6_versions_30 ?_
          refine mm_zald (16 * a + n) X dX6_versions_31 hR rfl (by simp only [mm_m2, mm_m3, mm_m4, mm_m5, mm_m12, mm_m16, nI_add, mm_a1, mm_a2, mm_a3, mm_a5, mm_a12, sp_e]) (by simp only [mm_len, sp_e]; omega) ?_
          have J40 : hm_W C (0 + r_X6_noSheet.cells) (0 + r_X6_noSheet.slots) (hm_T C (mm_P cA ad mo M0 (sp_w (sp_isS sg (nI a))) (sp_vers sg (nN (nI a))) (sg)) r_X6_versions.cells r_X6_versions.slots) M2 40 [some (.ref mo), some (.int (nI a)), some (.int (sp_is (fun v => if sg 2 (16 * a + v) = 0 then (0 : Int32) else 1) n)), some (.int (nI n))] [.int ((fun v => if sg 2 (16 * a + v) = 0 then (0 : Int32) else 1) n), .int (sp_is (fun v => if sg 2 (16 * a + v) = 0 then (0 : Int32) else 1) n)] := by
            refine hr_iadd X dX6_versions_40 ?_
            refine hr_istore_n X dX6_versions_41 (Nat.le_of_ble_eq_true rfl) ?_
            refine hr_iinc (1) X dX6_versions_42 rfl (by decide) ?_
            refine hr_goto 14 X dX6_versions_45 (by decide) ?_
            rw [mm_a1]
            exact ih (n + 1) (by omega) (by omega)
          refine hr_if_eq 39 X dX6_versions_32 (by decide) (fun c32 => ?_) (fun c32 => ?_)
          · refine hr_iconst (0) X dX6_versions_39 (by decide) ?_
            exact hr_eq (by simp [c32]) J40
          · refine hr_iconst (1) X dX6_versions_35 (by decide) ?_
            refine hr_goto 40 X dX6_versions_36 (by decide) ?_
            exact hr_eq (by simp [c32]) J40
    exact lp14 17 0 (by decide) (by decide)
  · rw [hm_bz] at c5
    refine hr_iconst (0) X dX6_versions_8 (by decide) ?_
    exact hr_iret X dX6_versions_9 (Nat.le_of_ble_eq_true rfl) (Nat.le_of_ble_eq_true rfl) ⟨_, _, hR, rfl, mm_up_s, fun q => absurd q c5⟩
set_option maxHeartbeats 4000000 in
set_option maxRecDepth 100000 in
theorem c_X6_head (cA : Nat → ClassId) {sg ta : mm_S} {ad : Nat → Nat} {mo : Nat} {M0 M : hm_M} (hR : mm_R cA sg ta ad mo M0 M) (hI : sp_I sg) (g s : Int32) : hm_Met cA yX6_head cX6_head 3 (some .int) r_X6_head [.ref mo, .int g, .int s] M (mm_P cA ad mo M0 (sp_w (sp_in g 0 3 && sp_isS sg s)) (sg 10 (4 * nN s + nN g)) (sg)) := by
  refine hm_met 0 (by decide +kernel) (fun w h => by simp only [List.mem_cons, List.not_mem_nil, or_false] at h; rcases h with rfl | rfl | rfl <;> rfl) rfl (fun C X => ?_)
  show hm_W C 0 0 _ M 0 [some (.ref mo), some (.int g), some (.int s)] []
  refine hr_aload_n X dX6_head_0 rfl (Or.inr ⟨_, rfl⟩) ?_
  have J21 : hm_W C 0 0 (hm_T C (mm_P cA ad mo M0 (sp_w (sp_in g 0 3 && sp_isS sg s)) (sg 10 (4 * nN s + nN g)) (sg)) r_X6_head.cells r_X6_head.slots) M 21 [some (.ref mo), some (.int g), some (.int s)] [.int (sp_w (sp_in g 0 3 && sp_isS sg s)), .ref mo] := by
    refine hr_callV X kC6_120 dX6_head_21 (c_X6_refused cA hR (sp_w (sp_in g 0 3 && sp_isS sg s))) hR.1 rfl rfl rfl rfl (Nat.le_of_ble_eq_true rfl) ⟨⟨(Nat.le_of_ble_eq_true rfl), (Nat.le_of_ble_eq_true rfl)⟩, (Nat.le_of_ble_eq_true rfl), (Nat.le_of_ble_eq_true rfl)⟩ (fun v M21 hp21 => ?_)
    obtain ⟨hR, rfl⟩ := hp21
    refine hr_if_eq 31 X dX6_head_24 (by decide) (fun c24 => ?_) (fun c24 => ?_)
    · rw [hm_bz] at c24
      have hc0 := sp_w_0.mp c24
      rw [Bool.and_eq_true] at hc0
      obtain ⟨g, hg, rfl⟩ := sp_in_g hc0.1
      obtain ⟨a, ha, ha4, rfl⟩ := sp_isS_nat hI hc0.2
      have e1 : nN (nI a) = a := nI_clamp (by omega)
      have e3 : nN (nI g) = g := nI_clamp (by omega)
      have fin : ∀ q : sp_w (sp_in (nI g) 0 3 && sp_isS sg (nI a)) = 0, sg 10 (4 * a + g) = sg 10 (4 * nN (nI a) + nN (nI g)) := fun _ => by rw [e1, e3]
      refine hr_aload_n X dX6_head_31 rfl (Or.inr ⟨_, rfl⟩) ?_
      refine mm_getA X kF6_35 dX6_head_32 hR 10 rfl ?_
      refine hr_iconst (4) X dX6_head_35 (by decide) ?_
      refine hr_iload_n X dX6_head_36 rfl ?_
      refine hr_imul X dX6_head_37 ?_
      refine hr_iload_n X dX6_head_38 rfl ?_
      refine hr_iadd X dX6_head_39 ?_
      refine mm_iald (4 * a + g) X dX6_head_40 hR rfl (by simp only [mm_m2, mm_m3, mm_m4, mm_m5, mm_m12, mm_m16, nI_add, mm_a1, mm_a2, mm_a3, mm_a5, mm_a12, sp_e]) (by simp only [mm_len, sp_e]; omega) ?_
      exact hr_iret X dX6_head_41 (Nat.le_of_ble_eq_true rfl) (Nat.le_of_ble_eq_true rfl) ⟨_, _, hR, rfl, mm_up_s, fin⟩
    · rw [hm_bz] at c24
      have fin : ∀ q : sp_w (sp_in g 0 3 && sp_isS sg s) = 0, (0 : Int32) = sg 10 (4 * nN s + nN g) := fun q => absurd q c24
      refine hr_iconst (0) X dX6_head_27 (by decide) ?_
      refine hr_goto 41 X dX6_head_28 (by decide) ?_
      exact hr_iret X dX6_head_41 (Nat.le_of_ble_eq_true rfl) (Nat.le_of_ble_eq_true rfl) ⟨_, _, hR, rfl, mm_up_s, fin⟩
  refine hr_iload_n X dX6_head_1 rfl ?_
  refine hr_callS X kC6_127 dX6_head_2 (c_X6_isClass cA (M := M) g) rfl rfl rfl (Nat.le_of_ble_eq_true rfl) ⟨⟨(Nat.le_of_ble_eq_true rfl), (Nat.le_of_ble_eq_true rfl)⟩, (Nat.le_of_ble_eq_true rfl), (Nat.le_of_ble_eq_true rfl)⟩ (fun v M2 hp => ?_)
  obtain ⟨rfl, rfl⟩ := hp
  refine hr_if_eq 20 X dX6_head_5 (by decide) (fun c5 => ?_) (fun c5 => ?_)
  · rw [hm_bI_eq] at c5
    have hz : sp_w (sp_in g 0 3 && sp_isS sg s) = 1 := by simp [sp_w, c5]
    refine hr_iconst (1) X dX6_head_20 (by decide) ?_
    exact hr_eq (by rw [hz] <;> rfl) J21
  · rw [hm_bI_ne] at c5
    refine hr_aload_n X dX6_head_8 rfl (Or.inr ⟨_, rfl⟩) ?_
    refine hr_iload_n X dX6_head_9 rfl ?_
    refine hr_callV X kC6_94 dX6_head_10 (c_X6_isSheet cA hR s) hR.1 rfl rfl rfl rfl (Nat.le_of_ble_eq_true rfl) ⟨⟨(Nat.le_of_ble_eq_true rfl), (Nat.le_of_ble_eq_true rfl)⟩, (Nat.le_of_ble_eq_true rfl), (Nat.le_of_ble_eq_true rfl)⟩ (fun v M10 hp => ?_)
    obtain ⟨rfl, rfl⟩ := hp
    refine hr_if_eq 20 X dX6_head_13 (by decide) (fun c13 => ?_) (fun c13 => ?_)
    · rw [hm_bI_eq] at c13
      have hz : sp_w (sp_in g 0 3 && sp_isS sg s) = 1 := by simp [sp_w, c13]
      refine hr_iconst (1) X dX6_head_20 (by decide) ?_
      exact hr_eq (by rw [hz] <;> rfl) J21
    · rw [hm_bI_ne] at c13
      have hz : sp_w (sp_in g 0 3 && sp_isS sg s) = 0 := by simp [sp_w, c5, c13]
      refine hr_iconst (0) X dX6_head_16 (by decide) ?_
      refine hr_goto 21 X dX6_head_17 (by decide) ?_
      exact hr_eq (by rw [hz] <;> rfl) J21
set_option maxHeartbeats 4000000 in
set_option maxRecDepth 100000 in
theorem c_X6_parent (cA : Nat → ClassId) {sg ta : mm_S} {ad : Nat → Nat} {mo : Nat} {M0 M : hm_M} (hR : mm_R cA sg ta ad mo M0 M) (hI : sp_I sg) (s v : Int32) : hm_Met cA yX6_parent cX6_parent 3 (some .int) r_X6_parent [.ref mo, .int s, .int v] M (mm_P cA ad mo M0 (sp_w (sp_isV sg s v)) (sg 3 (16 * nN s + nN v)) (sg)) := by
  refine hm_met 0 (by decide +kernel) (fun w h => by simp only [List.mem_cons, List.not_mem_nil, or_false] at h; rcases h with rfl | rfl | rfl <;> rfl) rfl (fun C X => ?_)
  show hm_W C 0 0 _ M 0 [some (.ref mo), some (.int s), some (.int v)] []
  refine hr_aload_n X dX6_parent_0 rfl (Or.inr ⟨_, rfl⟩) ?_
  have J15 : hm_W C 0 0 (hm_T C (mm_P cA ad mo M0 (sp_w (sp_isV sg s v)) (sg 3 (16 * nN s + nN v)) (sg)) r_X6_parent.cells r_X6_parent.slots) M 15 [some (.ref mo), some (.int s), some (.int v)] [.int (sp_w (sp_isV sg s v)), .ref mo] := by
    refine hr_callV X kC6_120 dX6_parent_15 (c_X6_refused cA hR (sp_w (sp_isV sg s v))) hR.1 rfl rfl rfl rfl (Nat.le_of_ble_eq_true rfl) ⟨⟨(Nat.le_of_ble_eq_true rfl), (Nat.le_of_ble_eq_true rfl)⟩, (Nat.le_of_ble_eq_true rfl), (Nat.le_of_ble_eq_true rfl)⟩ (fun v M15 hp15 => ?_)
    obtain ⟨hR, rfl⟩ := hp15
    refine hr_if_eq 25 X dX6_parent_18 (by decide) (fun c18 => ?_) (fun c18 => ?_)
    · rw [hm_bz] at c18
      have hc0 := sp_w_0.mp c18
      obtain ⟨a, b, ha, ha4, rfl, rfl, hb⟩ := sp_isV_nat hI hc0
      have e1 : nN (nI a) = a := nI_clamp (by omega)
      have hb16 := hb.1
      have e2 : nN (nI b) = b := nI_clamp (by omega)
      have fin : ∀ q : sp_w (sp_isV sg (nI a) (nI b)) = 0, sg 3 (16 * a + b) = sg 3 (16 * nN (nI a) + nN (nI b)) := fun _ => by rw [e1, e2]
      refine hr_aload_n X dX6_parent_25 rfl (Or.inr ⟨_, rfl⟩) ?_
      refine mm_getA X kF6_13 dX6_parent_26 hR 3 rfl ?_
      refine hr_bipush (16) X dX6_parent_29 (by decide) ?_
      refine hr_iload_n X dX6_parent_31 rfl ?_
      refine hr_imul X dX6_parent_32 ?_
      refine hr_iload_n X dX6_parent_33 rfl ?_
      refine hr_iadd X dX6_parent_34 ?_
      refine mm_iald (16 * a + b) X dX6_parent_35 hR rfl (by simp only [mm_m2, mm_m3, mm_m4, mm_m5, mm_m12, mm_m16, nI_add, mm_a1, mm_a2, mm_a3, mm_a5, mm_a12, sp_e]) (by simp only [mm_len, sp_e]; omega) ?_
      exact hr_iret X dX6_parent_36 (Nat.le_of_ble_eq_true rfl) (Nat.le_of_ble_eq_true rfl) ⟨_, _, hR, rfl, mm_up_s, fin⟩
    · rw [hm_bz] at c18
      have fin : ∀ q : sp_w (sp_isV sg s v) = 0, (0 : Int32) = sg 3 (16 * nN s + nN v) := fun q => absurd q c18
      refine hr_iconst (0) X dX6_parent_21 (by decide) ?_
      refine hr_goto 36 X dX6_parent_22 (by decide) ?_
      exact hr_iret X dX6_parent_36 (Nat.le_of_ble_eq_true rfl) (Nat.le_of_ble_eq_true rfl) ⟨_, _, hR, rfl, mm_up_s, fin⟩
  refine hr_aload_n X dX6_parent_1 rfl (Or.inr ⟨_, rfl⟩) ?_
  refine hr_iload_n X dX6_parent_2 rfl ?_
  refine hr_iload_n X dX6_parent_3 rfl ?_
  refine hr_callV X kC6_149 dX6_parent_4 (c_X6_isVersion cA hR hI s v) hR.1 rfl rfl rfl rfl (Nat.le_of_ble_eq_true rfl) ⟨⟨(Nat.le_of_ble_eq_true rfl), (Nat.le_of_ble_eq_true rfl)⟩, (Nat.le_of_ble_eq_true rfl), (Nat.le_of_ble_eq_true rfl)⟩ (fun v M4 hp => ?_)
  obtain ⟨rfl, rfl⟩ := hp
  refine hr_if_eq 14 X dX6_parent_7 (by decide) (fun c7 => ?_) (fun c7 => ?_)
  · rw [hm_bI_eq] at c7
    have hz : sp_w (sp_isV sg s v) = 1 := by simp [sp_w, c7]
    refine hr_iconst (1) X dX6_parent_14 (by decide) ?_
    exact hr_eq (by rw [hz] <;> rfl) J15
  · rw [hm_bI_ne] at c7
    have hz : sp_w (sp_isV sg s v) = 0 := by simp [sp_w, c7]
    refine hr_iconst (0) X dX6_parent_10 (by decide) ?_
    refine hr_goto 15 X dX6_parent_11 (by decide) ?_
    exact hr_eq (by rw [hz] <;> rfl) J15
set_option maxHeartbeats 4000000 in
set_option maxRecDepth 100000 in
theorem c_X6_noTask (cA : Nat → ClassId) {sg ta : mm_S} {ad : Nat → Nat} {mo : Nat} {M0 M : hm_M} (hR : mm_R cA sg ta ad mo M0 M) (hI : sp_I sg) (s v t : Int32) : hm_Met cA yX6_noTask cX6_noTask 4 (some .boolean) r_X6_noTask [.ref mo, .int s, .int v, .int t] M (fun r9 M' => mm_R cA sg (mm_up ta 0 0 (sp_thTask sg s v t)) ad mo M0 M' ∧ r9 = some (.int (hm_bI (!decide ((sp_thTask sg s v t) = 0))))) := by
  refine hm_met 0 (by decide +kernel) (fun w h => by simp only [List.mem_cons, List.not_mem_nil, or_false] at h; rcases h with rfl | rfl | rfl | rfl <;> rfl) rfl (fun C X => ?_)
  show hm_W C 0 0 _ M 0 [some (.ref mo), some (.int s), some (.int v), some (.int t)] []
  refine hr_aload_n X dX6_noTask_0 rfl (Or.inr ⟨_, rfl⟩) ?_
  have J22 : hm_W C 0 0 (hm_T C (fun r9 M' => mm_R cA sg (mm_up ta 0 0 (sp_thTask sg s v t)) ad mo M0 M' ∧ r9 = some (.int (hm_bI (!decide ((sp_thTask sg s v t) = 0))))) r_X6_noTask.cells r_X6_noTask.slots) M 22 [some (.ref mo), some (.int s), some (.int v), some (.int t)] [.int (sp_thTask sg s v t), .ref mo] := by
    refine hr_callV X kC6_120 dX6_noTask_22 (c_X6_refused cA hR (sp_thTask sg s v t)) hR.1 rfl rfl rfl rfl (Nat.le_of_ble_eq_true rfl) ⟨⟨(Nat.le_of_ble_eq_true rfl), (Nat.le_of_ble_eq_true rfl)⟩, (Nat.le_of_ble_eq_true rfl), (Nat.le_of_ble_eq_true rfl)⟩ (fun v M22 hp22 => ?_)
    obtain ⟨hR, rfl⟩ := hp22
    exact hr_zret X dX6_noTask_25 (hm_bIz _) (Nat.le_of_ble_eq_true rfl) (Nat.le_of_ble_eq_true rfl) ⟨hR, rfl⟩
  refine hr_aload_n X dX6_noTask_1 rfl (Or.inr ⟨_, rfl⟩) ?_
  refine hr_iload_n X dX6_noTask_2 rfl ?_
  refine hr_iload_n X dX6_noTask_3 rfl ?_
  refine hr_callV X kC6_149 dX6_noTask_4 (c_X6_isVersion cA hR hI s v) hR.1 rfl rfl rfl rfl (Nat.le_of_ble_eq_true rfl) ⟨⟨(Nat.le_of_ble_eq_true rfl), (Nat.le_of_ble_eq_true rfl)⟩, (Nat.le_of_ble_eq_true rfl), (Nat.le_of_ble_eq_true rfl)⟩ (fun v M4 hp => ?_)
  obtain ⟨rfl, rfl⟩ := hp
  refine hr_if_eq 21 X dX6_noTask_7 (by decide) (fun c7 => ?_) (fun c7 => ?_)
  · rw [hm_bI_eq] at c7
    have hz : sp_thTask sg s v t = 1 := by simp [sp_thTask, sp_w, c7]
    refine hr_iconst (1) X dX6_noTask_21 (by decide) ?_
    exact hr_eq (by rw [hz] <;> rfl) J22
  · rw [hm_bI_ne] at c7
    refine hr_iload_n X dX6_noTask_10 rfl ?_
    refine hr_callS X kC6_130 dX6_noTask_11 (c_X6_isTask cA (M := M) t) rfl rfl rfl (Nat.le_of_ble_eq_true rfl) ⟨⟨(Nat.le_of_ble_eq_true rfl), (Nat.le_of_ble_eq_true rfl)⟩, (Nat.le_of_ble_eq_true rfl), (Nat.le_of_ble_eq_true rfl)⟩ (fun v M11 hp => ?_)
    obtain ⟨rfl, rfl⟩ := hp
    refine hr_if_eq 21 X dX6_noTask_14 (by decide) (fun c14 => ?_) (fun c14 => ?_)
    · rw [hm_bI_eq] at c14
      have hz : sp_thTask sg s v t = 1 := by simp [sp_thTask, sp_w, c14]
      refine hr_iconst (1) X dX6_noTask_21 (by decide) ?_
      exact hr_eq (by rw [hz] <;> rfl) J22
    · rw [hm_bI_ne] at c14
      have hz : sp_thTask sg s v t = 0 := by simp [sp_thTask, sp_w, c7, c14]
      refine hr_iconst (0) X dX6_noTask_17 (by decide) ?_
      refine hr_goto 22 X dX6_noTask_18 (by decide) ?_
      exact hr_eq (by rw [hz] <;> rfl) J22
set_option maxHeartbeats 4000000 in
set_option maxRecDepth 100000 in
theorem c_X6_kindOf (cA : Nat → ClassId) {sg ta : mm_S} {ad : Nat → Nat} {mo : Nat} {M0 M : hm_M} (hR : mm_R cA sg ta ad mo M0 M) (hI : sp_I sg) (s v t : Int32) : hm_Met cA yX6_kindOf cX6_kindOf 5 (some .int) r_X6_kindOf [.ref mo, .int s, .int v, .int t] M (mm_P cA ad mo M0 (sp_thTask sg s v t) (sp_kind sg (nN s) (nN v) (nN t)) (sg)) := by
  refine hm_met 1 (by decide +kernel) (fun w h => by simp only [List.mem_cons, List.not_mem_nil, or_false] at h; rcases h with rfl | rfl | rfl | rfl <;> rfl) rfl (fun C X => ?_)
  show hm_W C 0 0 _ M 0 [some (.ref mo), some (.int s), some (.int v), some (.int t), none] []
  refine hr_aload_n X dX6_kindOf_0 rfl (Or.inr ⟨_, rfl⟩) ?_
  refine hr_iload_n X dX6_kindOf_1 rfl ?_
  refine hr_iload_n X dX6_kindOf_2 rfl ?_
  refine hr_iload_n X dX6_kindOf_3 rfl ?_
  refine hr_callV X kC6_168 dX6_kindOf_4 (c_X6_noTask cA hR hI s v t) hR.1 rfl rfl rfl rfl (Nat.le_of_ble_eq_true rfl) ⟨⟨(Nat.le_of_ble_eq_true rfl), (Nat.le_of_ble_eq_true rfl)⟩, (Nat.le_of_ble_eq_true rfl), (Nat.le_of_ble_eq_true rfl)⟩ (fun v M4 hp4 => ?_)
  obtain ⟨hR, rfl⟩ := hp4
  refine hr_if_eq 12 X dX6_kindOf_7 (by decide) (fun c7 => ?_) (fun c7 => ?_)
  · rw [hm_bz] at c7
    have hc0 := sp_w_0.mp c7
    rw [Bool.and_eq_true] at hc0
    obtain ⟨a, b, ha, ha4, rfl, rfl, hb⟩ := sp_isV_nat hI hc0.1
    have e1 : nN (nI a) = a := nI_clamp (by omega)
    have hb16 := hb.1
    have e2 : nN (nI b) = b := nI_clamp (by omega)
    obtain ⟨t, ht, rfl⟩ := sp_in_t5 hc0.2
    have e3 : nN (nI t) = t := nI_clamp (by omega)
    refine hr_aload_n X dX6_kindOf_12 rfl (Or.inr ⟨_, rfl⟩) ?_
    refine hr_iload_n X dX6_kindOf_13 rfl ?_
    refine hr_iload_n X dX6_kindOf_14 rfl ?_
    refine hr_iload_n X dX6_kindOf_15 rfl ?_
    refine hr_callV X kC6_146 dX6_kindOf_16 (c_X6_has cA hR hI a b t ha hb ht) hR.1 rfl rfl rfl rfl (Nat.le_of_ble_eq_true rfl) ⟨⟨(Nat.le_of_ble_eq_true rfl), (Nat.le_of_ble_eq_true rfl)⟩, (Nat.le_of_ble_eq_true rfl), (Nat.le_of_ble_eq_true rfl)⟩ (fun v M16 hp => ?_)
    obtain ⟨rfl, rfl⟩ := hp
    refine hr_istore X dX6_kindOf_19 (Nat.le_of_ble_eq_true rfl) ?_
    refine hr_iload X dX6_kindOf_21 rfl ?_
    refine hr_iconst (-1) X dX6_kindOf_23 (by decide) ?_
    refine hr_icmp_ne 31 X dX6_kindOf_24 (by decide) (fun c24 => ?_) (fun c24 => ?_)
    · obtain ⟨w, hw⟩ := sp_o_some c24
      obtain ⟨u, hq, -⟩ := Option.map_eq_some_iff.mp hw
      have hu16 := (sp_has_some hI ha hb hq).1.1
      refine hr_aload_n X dX6_kindOf_31 rfl (Or.inr ⟨_, rfl⟩) ?_
      refine mm_getA X kF6_23 dX6_kindOf_32 hR 6 rfl ?_
      refine hr_iload X dX6_kindOf_35 rfl ?_
      refine mm_iald (sp_e a u t) X dX6_kindOf_37 hR rfl (by rw [hq]; rfl) (by simp only [mm_len, sp_e]; omega) ?_
      exact hr_iret X dX6_kindOf_38 (Nat.le_of_ble_eq_true rfl) (Nat.le_of_ble_eq_true rfl) ⟨_, _, hR, rfl, mm_up_s, fun _ => by rw [e1, e2, e3, sp_kind, hq]⟩
    · have hq : sp_has sg a b t = none := Option.map_eq_none_iff.mp (sp_o_none (fun u h => by
        obtain ⟨w, h1, rfl⟩ := Option.map_eq_some_iff.mp h
        have := (sp_has_some hI ha hb h1).1.1
        simp only [sp_e]
        omega) c24)
      refine hr_iconst (-1) X dX6_kindOf_27 (by decide) ?_
      refine hr_goto 38 X dX6_kindOf_28 (by decide) ?_
      exact hr_iret X dX6_kindOf_38 (Nat.le_of_ble_eq_true rfl) (Nat.le_of_ble_eq_true rfl) ⟨_, _, hR, rfl, mm_up_s, fun _ => by rw [e1, e2, e3, sp_kind, hq]⟩
  · rw [hm_bz] at c7
    refine hr_iconst (0) X dX6_kindOf_10 (by decide) ?_
    exact hr_iret X dX6_kindOf_11 (Nat.le_of_ble_eq_true rfl) (Nat.le_of_ble_eq_true rfl) ⟨_, _, hR, rfl, mm_up_s, fun q => absurd q c7⟩
set_option maxHeartbeats 4000000 in
set_option maxRecDepth 100000 in
theorem c_X6_toldIn (cA : Nat → ClassId) {sg ta : mm_S} {ad : Nat → Nat} {mo : Nat} {M0 M : hm_M} (hR : mm_R cA sg ta ad mo M0 M) (hI : sp_I sg) (s v t : Int32) : hm_Met cA yX6_toldIn cX6_toldIn 5 (some .int) r_X6_toldIn [.ref mo, .int s, .int v, .int t] M (mm_P cA ad mo M0 (sp_thTask sg s v t) (sp_o (sp_tel sg (nN s) (nN v) (nN t))) (sg)) := by
  refine hm_met 1 (by decide +kernel) (fun w h => by simp only [List.mem_cons, List.not_mem_nil, or_false] at h; rcases h with rfl | rfl | rfl | rfl <;> rfl) rfl (fun C X => ?_)
  show hm_W C 0 0 _ M 0 [some (.ref mo), some (.int s), some (.int v), some (.int t), none] []
  refine hr_aload_n X dX6_toldIn_0 rfl (Or.inr ⟨_, rfl⟩) ?_
  refine hr_iload_n X dX6_toldIn_1 rfl ?_
  refine hr_iload_n X dX6_toldIn_2 rfl ?_
  refine hr_iload_n X dX6_toldIn_3 rfl ?_
  refine hr_callV X kC6_168 dX6_toldIn_4 (c_X6_noTask cA hR hI s v t) hR.1 rfl rfl rfl rfl (Nat.le_of_ble_eq_true rfl) ⟨⟨(Nat.le_of_ble_eq_true rfl), (Nat.le_of_ble_eq_true rfl)⟩, (Nat.le_of_ble_eq_true rfl), (Nat.le_of_ble_eq_true rfl)⟩ (fun v M4 hp4 => ?_)
  obtain ⟨hR, rfl⟩ := hp4
  refine hr_if_eq 12 X dX6_toldIn_7 (by decide) (fun c7 => ?_) (fun c7 => ?_)
  · rw [hm_bz] at c7
    have hc0 := sp_w_0.mp c7
    rw [Bool.and_eq_true] at hc0
    obtain ⟨a, b, ha, ha4, rfl, rfl, hb⟩ := sp_isV_nat hI hc0.1
    have e1 : nN (nI a) = a := nI_clamp (by omega)
    have hb16 := hb.1
    have e2 : nN (nI b) = b := nI_clamp (by omega)
    obtain ⟨t, ht, rfl⟩ := sp_in_t5 hc0.2
    have e3 : nN (nI t) = t := nI_clamp (by omega)
    refine hr_aload_n X dX6_toldIn_12 rfl (Or.inr ⟨_, rfl⟩) ?_
    refine hr_iload_n X dX6_toldIn_13 rfl ?_
    refine hr_iload_n X dX6_toldIn_14 rfl ?_
    refine hr_iload_n X dX6_toldIn_15 rfl ?_
    refine hr_callV X kC6_107 dX6_toldIn_16 (c_X6_entryFor cA hR hI a b t ha hb ht) hR.1 rfl rfl rfl rfl (Nat.le_of_ble_eq_true rfl) ⟨⟨(Nat.le_of_ble_eq_true rfl), (Nat.le_of_ble_eq_true rfl)⟩, (Nat.le_of_ble_eq_true rfl), (Nat.le_of_ble_eq_true rfl)⟩ (fun v M16 hp => ?_)
    obtain ⟨rfl, rfl⟩ := hp
    refine hr_istore X dX6_toldIn_19 (Nat.le_of_ble_eq_true rfl) ?_
    refine hr_iload X dX6_toldIn_21 rfl ?_
    refine hr_iconst (-1) X dX6_toldIn_23 (by decide) ?_
    refine hr_icmp_ne 31 X dX6_toldIn_24 (by decide) (fun c24 => ?_) (fun c24 => ?_)
    · obtain ⟨w, hw⟩ := sp_o_some c24
      obtain ⟨u, hq, -⟩ := Option.map_eq_some_iff.mp hw
      have hu16 := (sp_tel_some hI ha hb hq).1.1
      refine hr_iload X dX6_toldIn_31 rfl ?_
      refine hr_iconst (5) X dX6_toldIn_33 (by decide) ?_
      refine hr_idiv X dX6_toldIn_34 (by decide) ?_
      refine hr_bipush (16) X dX6_toldIn_35 (by decide) ?_
      refine hr_irem X dX6_toldIn_37 (by decide) ?_
      exact hr_iret X dX6_toldIn_38 (Nat.le_of_ble_eq_true rfl) (Nat.le_of_ble_eq_true rfl) ⟨_, _, hR, rfl, mm_up_s, fun _ => by
          rw [e1, e2, e3, hq]
          first
            | rfl
            | (simp only [Option.map, sp_o, sp_e]; rw [mm_d5 (by omega), mm_r16 (by omega)]; congr 1; omega)⟩
    · have hq : sp_tel sg a b t = none := Option.map_eq_none_iff.mp (sp_o_none (fun u h => by
        obtain ⟨w, h1, rfl⟩ := Option.map_eq_some_iff.mp h
        have := (sp_tel_some hI ha hb h1).1.1
        simp only [sp_e]
        omega) c24)
      refine hr_iconst (-1) X dX6_toldIn_27 (by decide) ?_
      refine hr_goto 38 X dX6_toldIn_28 (by decide) ?_
      exact hr_iret X dX6_toldIn_38 (Nat.le_of_ble_eq_true rfl) (Nat.le_of_ble_eq_true rfl) ⟨_, _, hR, rfl, mm_up_s, fun _ => by
          rw [e1, e2, e3, hq]
          first
            | rfl
            | (simp only [Option.map, sp_o, sp_e]; rw [mm_d5 (by omega), mm_r16 (by omega)]; congr 1; omega)⟩
  · rw [hm_bz] at c7
    refine hr_iconst (0) X dX6_toldIn_10 (by decide) ?_
    exact hr_iret X dX6_toldIn_11 (Nat.le_of_ble_eq_true rfl) (Nat.le_of_ble_eq_true rfl) ⟨_, _, hR, rfl, mm_up_s, fun q => absurd q c7⟩
set_option maxHeartbeats 4000000 in
set_option maxRecDepth 100000 in
theorem c_X6_points (cA : Nat → ClassId) {sg ta : mm_S} {ad : Nat → Nat} {mo : Nat} {M0 M : hm_M} (hR : mm_R cA sg ta ad mo M0 M) (hI : sp_I sg) (s v : Int32) : hm_Met cA yX6_points cX6_points 6 (some .int) r_X6_points [.ref mo, .int s, .int v] M (mm_P cA ad mo M0 (sp_w (sp_isV sg s v)) (sp_pts sg (nN s) (nN v)) (sg)) := by
  refine hm_met 3 (by decide +kernel) (fun w h => by simp only [List.mem_cons, List.not_mem_nil, or_false] at h; rcases h with rfl | rfl | rfl <;> rfl) rfl (fun C X => ?_)
  show hm_W C 0 0 _ M 0 [some (.ref mo), some (.int s), some (.int v), none, none, none] []
  refine hr_aload_n X dX6_points_0 rfl (Or.inr ⟨_, rfl⟩) ?_
  have J15 : hm_W C 0 0 (hm_T C (mm_P cA ad mo M0 (sp_w (sp_isV sg s v)) (sp_pts sg (nN s) (nN v)) (sg)) r_X6_points.cells r_X6_points.slots) M 15 [some (.ref mo), some (.int s), some (.int v), none, none, none] [.int (sp_w (sp_isV sg s v)), .ref mo] := by
    refine hr_callV X kC6_120 dX6_points_15 (c_X6_refused cA hR (sp_w (sp_isV sg s v))) hR.1 rfl rfl rfl rfl (Nat.le_of_ble_eq_true rfl) ⟨⟨(Nat.le_of_ble_eq_true rfl), (Nat.le_of_ble_eq_true rfl)⟩, (Nat.le_of_ble_eq_true rfl), (Nat.le_of_ble_eq_true rfl)⟩ (fun v M15 hp15 => ?_)
    obtain ⟨hR, rfl⟩ := hp15
    refine hr_if_eq 23 X dX6_points_18 (by decide) (fun c18 => ?_) (fun c18 => ?_)
    · rw [hm_bz] at c18
      have hc0 := sp_w_0.mp c18
      obtain ⟨a, b, ha, ha4, rfl, rfl, hb⟩ := sp_isV_nat hI hc0
      have e1 : nN (nI a) = a := nI_clamp (by omega)
      have hb16 := hb.1
      have e2 : nN (nI b) = b := nI_clamp (by omega)
      refine hr_iconst (0) X dX6_points_23 (by decide) ?_
      refine hr_istore_n X dX6_points_24 (Nat.le_of_ble_eq_true rfl) ?_
      refine hr_iconst (0) X dX6_points_25 (by decide) ?_
      refine hr_istore X dX6_points_26 (Nat.le_of_ble_eq_true rfl) ?_
      have lp28 : ∀ (f : Nat) (n : Nat) (y : Option Value), 5 < n + f → n ≤ 5 → hm_W C (0 + r_X6_refused.cells) (0 + r_X6_refused.slots) (hm_T C (mm_P cA ad mo M0 (sp_w (sp_isV sg (nI a) (nI b))) (sp_pts sg (nN (nI a)) (nN (nI b))) (sg)) r_X6_points.cells r_X6_points.slots) M15 28 [some (.ref mo), some (.int (nI a)), some (.int (nI b)), some (.int (sp_is (sp_ptT sg a b) n)), some (.int (nI n)), none] [] := by
        intro f
        induction f with
        | zero => intro n y h1 h2; exact absurd h1 (by omega)
        | succ f ih =>
          intro n y h1 h2
          refine hr_iload X dX6_points_28 rfl ?_
          refine hr_iconst (5) X dX6_points_30 (by decide) ?_
          refine hr_icmp_ge 70 X dX6_points_31 (by decide) (fun c31 => ?_) (fun c31 => ?_)
          · have hz : n = 5 := by have := (nI_leI (a := 5) (by decide) (by omega)).mp c31; omega
            subst hz
            refine hr_iload_n X dX6_points_70 rfl ?_
            exact hr_iret X dX6_points_71 (Nat.le_of_ble_eq_true rfl) (Nat.le_of_ble_eq_true rfl) ⟨_, _, hR, rfl, mm_up_s, fun _ => by rw [e1, e2]; rfl⟩
          · have hn : n < 5 := by
              rcases Nat.lt_or_ge n 5 with q | q
              · exact q
              · exact absurd (nI_le q (by omega)) c31
            refine hr_aload_n X dX6_points_34 rfl (Or.inr ⟨_, rfl⟩) ?_
            refine hr_iload_n X dX6_points_35 rfl ?_
            refine hr_iload_n X dX6_points_36 rfl ?_
            refine hr_iload X dX6_points_37 rfl ?_
            refine hr_callV X kC6_146 dX6_points_39 (c_X6_has cA hR hI a b n ha hb hn) hR.1 rfl rfl rfl rfl (Nat.le_of_ble_eq_true rfl) ⟨⟨(Nat.le_of_ble_eq_true rfl), (Nat.le_of_ble_eq_true rfl)⟩, (Nat.le_of_ble_eq_true rfl), (Nat.le_of_ble_eq_true rfl)⟩ (fun v M39 hp => ?_)
            obtain ⟨rfl, rfl⟩ := hp
            refine hr_istore X dX6_points_42 (Nat.le_of_ble_eq_true rfl) ?_
            have J62 : hm_W C (0 + r_X6_refused.cells) (0 + r_X6_refused.slots) (hm_T C (mm_P cA ad mo M0 (sp_w (sp_isV sg (nI a) (nI b))) (sp_pts sg (nN (nI a)) (nN (nI b))) (sg)) r_X6_points.cells r_X6_points.slots) M15 62 [some (.ref mo), some (.int (nI a)), some (.int (nI b)), some (.int (sp_is (sp_ptT sg a b) n)), some (.int (nI n)), some (.int (sp_o (Option.map (fun u => sp_e a u n) (sp_has sg a b n))))] [.int (sp_ptT sg a b n), .int (sp_is (sp_ptT sg a b) n)] := by
              refine hr_iadd X dX6_points_62 ?_
              refine hr_istore_n X dX6_points_63 (Nat.le_of_ble_eq_true rfl) ?_
              refine hr_iinc (1) X dX6_points_64 rfl (by decide) ?_
              refine hr_goto 28 X dX6_points_67 (by decide) ?_
              rw [mm_a1]
              exact hr_sub (by exact ⟨rfl, rfl, rfl, rfl, rfl, trivial⟩) (ih (n + 1) none (by omega) (by omega))
            refine hr_iload_n X dX6_points_44 rfl ?_
            refine hr_iload X dX6_points_45 rfl ?_
            refine hr_iconst (-1) X dX6_points_47 (by decide) ?_
            refine hr_icmp_ne 55 X dX6_points_48 (by decide) (fun c48 => ?_) (fun c48 => ?_)
            · obtain ⟨w, hw⟩ := sp_o_some c48
              obtain ⟨u, hq, -⟩ := Option.map_eq_some_iff.mp hw
              have hu16 := (sp_has_some hI ha hb hq).1.1
              refine hr_aload_n X dX6_points_55 rfl (Or.inr ⟨_, rfl⟩) ?_
              refine mm_getA X kF6_26 dX6_points_56 hR 7 rfl ?_
              refine hr_iload X dX6_points_59 rfl ?_
              refine mm_iald (sp_e a u n) X dX6_points_61 hR rfl (by rw [hq]; rfl) (by simp only [mm_len, sp_e]; omega) ?_
              exact hr_eq (by rw [sp_ptT, hq] <;> rfl) J62
            · have hq : sp_has sg a b n = none := Option.map_eq_none_iff.mp (sp_o_none (fun u h => by
                obtain ⟨w, h1, rfl⟩ := Option.map_eq_some_iff.mp h
                have := (sp_has_some hI ha hb h1).1.1
                simp only [sp_e]
                omega) c48)
              refine hr_iconst (0) X dX6_points_51 (by decide) ?_
              refine hr_goto 62 X dX6_points_52 (by decide) ?_
              exact hr_eq (by rw [sp_ptT, hq] <;> rfl) J62
      exact lp28 6 0 none (by decide) (by decide)
    · rw [hm_bz] at c18
      refine hr_iconst (0) X dX6_points_21 (by decide) ?_
      exact hr_iret X dX6_points_22 (Nat.le_of_ble_eq_true rfl) (Nat.le_of_ble_eq_true rfl) ⟨_, _, hR, rfl, mm_up_s, fun q => absurd q c18⟩
  refine hr_aload_n X dX6_points_1 rfl (Or.inr ⟨_, rfl⟩) ?_
  refine hr_iload_n X dX6_points_2 rfl ?_
  refine hr_iload_n X dX6_points_3 rfl ?_
  refine hr_callV X kC6_149 dX6_points_4 (c_X6_isVersion cA hR hI s v) hR.1 rfl rfl rfl rfl (Nat.le_of_ble_eq_true rfl) ⟨⟨(Nat.le_of_ble_eq_true rfl), (Nat.le_of_ble_eq_true rfl)⟩, (Nat.le_of_ble_eq_true rfl), (Nat.le_of_ble_eq_true rfl)⟩ (fun v M4 hp => ?_)
  obtain ⟨rfl, rfl⟩ := hp
  refine hr_if_eq 14 X dX6_points_7 (by decide) (fun c7 => ?_) (fun c7 => ?_)
  · rw [hm_bI_eq] at c7
    have hz : sp_w (sp_isV sg s v) = 1 := by simp [sp_w, c7]
    refine hr_iconst (1) X dX6_points_14 (by decide) ?_
    exact hr_eq (by rw [hz] <;> rfl) J15
  · rw [hm_bI_ne] at c7
    have hz : sp_w (sp_isV sg s v) = 0 := by simp [sp_w, c7]
    refine hr_iconst (0) X dX6_points_10 (by decide) ?_
    refine hr_goto 15 X dX6_points_11 (by decide) ?_
    exact hr_eq (by rw [hz] <;> rfl) J15
set_option maxHeartbeats 4000000 in
set_option maxRecDepth 100000 in
theorem c_X6_setQuota (cA : Nat → ClassId) {sg ta : mm_S} {ad : Nat → Nat} {mo : Nat} {M0 M : hm_M} (hR : mm_R cA sg ta ad mo M0 M) (g q : Int32) : hm_Met cA yX6_setQuota cX6_setQuota 4 (some .int) r_X6_setQuota [.ref mo, .int g, .int q] M (mm_P cA ad mo M0 (sp_thQuota g q) (sg 12 (nN g)) (if sp_thQuota g q = 0 then mm_up sg 12 (nN g) q else sg)) := by
  refine hm_met 1 (by decide +kernel) (fun w h => by simp only [List.mem_cons, List.not_mem_nil, or_false] at h; rcases h with rfl | rfl | rfl <;> rfl) rfl (fun C X => ?_)
  show hm_W C 0 0 _ M 0 [some (.ref mo), some (.int g), some (.int q), none] []
  refine hr_aload_n X dX6_setQuota_0 rfl (Or.inr ⟨_, rfl⟩) ?_
  have J28 : hm_W C 0 0 (hm_T C (mm_P cA ad mo M0 (sp_thQuota g q) (sg 12 (nN g)) (if sp_thQuota g q = 0 then mm_up sg 12 (nN g) q else sg)) r_X6_setQuota.cells r_X6_setQuota.slots) M 28 [some (.ref mo), some (.int g), some (.int q), none] [.int (sp_thQuota g q), .ref mo] := by
    refine hr_callV X kC6_120 dX6_setQuota_28 (c_X6_refused cA hR (sp_thQuota g q)) hR.1 rfl rfl rfl rfl (Nat.le_of_ble_eq_true rfl) ⟨⟨(Nat.le_of_ble_eq_true rfl), (Nat.le_of_ble_eq_true rfl)⟩, (Nat.le_of_ble_eq_true rfl), (Nat.le_of_ble_eq_true rfl)⟩ (fun v M28 hp28 => ?_)
    obtain ⟨hR, rfl⟩ := hp28
    refine hr_if_eq 36 X dX6_setQuota_31 (by decide) (fun c31 => ?_) (fun c31 => ?_)
    · rw [hm_bz] at c31
      rw [if_pos c31]
      have hc0 : sp_in g 0 3 = true := by
        cases hb : sp_in g 0 3 with
        | true => rfl
        | false => rw [sp_thQuota, hb, if_neg (by decide)] at c31; exact absurd c31 (by decide)
      obtain ⟨g, hg, rfl⟩ := sp_in_g hc0
      have e1 : nN (nI g) = g := nI_clamp (by omega)
      refine hr_aload_n X dX6_setQuota_36 rfl (Or.inr ⟨_, rfl⟩) ?_
      refine mm_getA X kF6_41 dX6_setQuota_37 hR 12 rfl ?_
      refine hr_iload_n X dX6_setQuota_40 rfl ?_
      refine mm_iald (g) X dX6_setQuota_41 hR rfl (by simp only [mm_m2, mm_m3, mm_m4, mm_m5, mm_m12, mm_m16, nI_add, mm_a1, mm_a2, mm_a3, mm_a5, mm_a12, sp_e]) (by simp only [mm_len, sp_e]; omega) ?_
      refine hr_istore_n X dX6_setQuota_42 (Nat.le_of_ble_eq_true rfl) ?_
      refine hr_aload_n X dX6_setQuota_43 rfl (Or.inr ⟨_, rfl⟩) ?_
      refine mm_getA X kF6_41 dX6_setQuota_44 hR 12 rfl ?_
      refine hr_iload_n X dX6_setQuota_47 rfl ?_
      refine hr_iload_n X dX6_setQuota_48 rfl ?_
      refine mm_iast (g) X dX6_setQuota_49 hR rfl (by simp only [mm_m2, mm_m3, mm_m4, mm_m5, mm_m12, mm_m16, nI_add, mm_a1, mm_a2, mm_a3, mm_a5, mm_a12, sp_e]) (by simp only [mm_len, sp_e]; omega) (fun M49 hR => ?_)
      refine hr_iload_n X dX6_setQuota_50 rfl ?_
      exact hr_iret X dX6_setQuota_51 (Nat.le_of_ble_eq_true rfl) (Nat.le_of_ble_eq_true rfl) ⟨_, _, by rw [e1]; exact hR, rfl, mm_up_s, fun _ => by rw [e1]⟩
    · rw [hm_bz] at c31
      rw [if_neg c31]
      refine hr_iconst (0) X dX6_setQuota_34 (by decide) ?_
      exact hr_iret X dX6_setQuota_35 (Nat.le_of_ble_eq_true rfl) (Nat.le_of_ble_eq_true rfl) ⟨_, _, hR, rfl, mm_up_s, fun q => absurd q c31⟩
  refine hr_iload_n X dX6_setQuota_1 rfl ?_
  refine hr_callS X kC6_127 dX6_setQuota_2 (c_X6_isClass cA (M := M) g) rfl rfl rfl (Nat.le_of_ble_eq_true rfl) ⟨⟨(Nat.le_of_ble_eq_true rfl), (Nat.le_of_ble_eq_true rfl)⟩, (Nat.le_of_ble_eq_true rfl), (Nat.le_of_ble_eq_true rfl)⟩ (fun v M2 hp => ?_)
  obtain ⟨rfl, rfl⟩ := hp
  refine hr_if_ne 12 X dX6_setQuota_5 (by decide) (fun c5 => ?_) (fun c5 => ?_)
  · rw [hm_bI_ne] at c5
    refine hr_iload_n X dX6_setQuota_12 rfl ?_
    refine hr_iconst (0) X dX6_setQuota_13 (by decide) ?_
    refine hr_sipush (1000) X dX6_setQuota_14 (by decide) ?_
    refine hr_callS X kC6_87 dX6_setQuota_17 (c_X6_in cA (M := M) q 0 1000) rfl rfl rfl (Nat.le_of_ble_eq_true rfl) ⟨⟨(Nat.le_of_ble_eq_true rfl), (Nat.le_of_ble_eq_true rfl)⟩, (Nat.le_of_ble_eq_true rfl), (Nat.le_of_ble_eq_true rfl)⟩ (fun v M17 hp => ?_)
    obtain ⟨rfl, rfl⟩ := hp
    refine hr_if_eq 27 X dX6_setQuota_20 (by decide) (fun c20 => ?_) (fun c20 => ?_)
    · rw [hm_bI_eq] at c20
      have hz : sp_thQuota g q = 2 := by simp [sp_thQuota, c5, c20]
      refine hr_iconst (2) X dX6_setQuota_27 (by decide) ?_
      exact hr_eq (by rw [hz] <;> rfl) J28
    · rw [hm_bI_ne] at c20
      have hz : sp_thQuota g q = 0 := by simp [sp_thQuota, c5, c20]
      refine hr_iconst (0) X dX6_setQuota_23 (by decide) ?_
      refine hr_goto 28 X dX6_setQuota_24 (by decide) ?_
      exact hr_eq (by rw [hz] <;> rfl) J28
  · rw [hm_bI_eq] at c5
    have hz : sp_thQuota g q = 1 := by simp [sp_thQuota, c5]
    refine hr_iconst (1) X dX6_setQuota_8 (by decide) ?_
    refine hr_goto 28 X dX6_setQuota_9 (by decide) ?_
    exact hr_eq (by rw [hz] <;> rfl) J28
set_option maxHeartbeats 4000000 in
set_option maxRecDepth 100000 in
theorem c_X6_used (cA : Nat → ClassId) {sg ta : mm_S} {ad : Nat → Nat} {mo : Nat} {M0 M : hm_M} (hR : mm_R cA sg ta ad mo M0 M) (g : Int32) : hm_Met cA yX6_used cX6_used 2 (some .int) r_X6_used [.ref mo, .int g] M (mm_P cA ad mo M0 (sp_w (sp_in g 0 3)) (sp_used sg g) (sg)) := by
  refine hm_met 0 (by decide +kernel) (fun w h => by simp only [List.mem_cons, List.not_mem_nil, or_false] at h; rcases h with rfl | rfl <;> rfl) rfl (fun C X => ?_)
  show hm_W C 0 0 _ M 0 [some (.ref mo), some (.int g)] []
  refine hr_aload_n X dX6_used_0 rfl (Or.inr ⟨_, rfl⟩) ?_
  have J13 : hm_W C 0 0 (hm_T C (mm_P cA ad mo M0 (sp_w (sp_in g 0 3)) (sp_used sg g) (sg)) r_X6_used.cells r_X6_used.slots) M 13 [some (.ref mo), some (.int g)] [.int (sp_w (sp_in g 0 3)), .ref mo] := by
    refine hr_callV X kC6_120 dX6_used_13 (c_X6_refused cA hR (sp_w (sp_in g 0 3))) hR.1 rfl rfl rfl rfl (Nat.le_of_ble_eq_true rfl) ⟨⟨(Nat.le_of_ble_eq_true rfl), (Nat.le_of_ble_eq_true rfl)⟩, (Nat.le_of_ble_eq_true rfl), (Nat.le_of_ble_eq_true rfl)⟩ (fun v M13 hp13 => ?_)
    obtain ⟨hR, rfl⟩ := hp13
    refine hr_if_eq 23 X dX6_used_16 (by decide) (fun c16 => ?_) (fun c16 => ?_)
    · rw [hm_bz] at c16
      have fin : ∀ q : sp_w (sp_in g 0 3) = 0, sp_used sg g = sp_used sg g := fun _ => rfl
      refine hr_aload_n X dX6_used_23 rfl (Or.inr ⟨_, rfl⟩) ?_
      refine hr_iload_n X dX6_used_24 rfl ?_
      refine hr_callV X kC6_117 dX6_used_25 (c_X6_usedBy cA hR g) hR.1 rfl rfl rfl rfl (Nat.le_of_ble_eq_true rfl) ⟨⟨(Nat.le_of_ble_eq_true rfl), (Nat.le_of_ble_eq_true rfl)⟩, (Nat.le_of_ble_eq_true rfl), (Nat.le_of_ble_eq_true rfl)⟩ (fun v M25 hp => ?_)
      obtain ⟨rfl, rfl⟩ := hp
      exact hr_iret X dX6_used_28 (Nat.le_of_ble_eq_true rfl) (Nat.le_of_ble_eq_true rfl) ⟨_, _, hR, rfl, mm_up_s, fin⟩
    · rw [hm_bz] at c16
      have fin : ∀ q : sp_w (sp_in g 0 3) = 0, (0 : Int32) = sp_used sg g := fun q => absurd q c16
      refine hr_iconst (0) X dX6_used_19 (by decide) ?_
      refine hr_goto 28 X dX6_used_20 (by decide) ?_
      exact hr_iret X dX6_used_28 (Nat.le_of_ble_eq_true rfl) (Nat.le_of_ble_eq_true rfl) ⟨_, _, hR, rfl, mm_up_s, fin⟩
  refine hr_iload_n X dX6_used_1 rfl ?_
  refine hr_callS X kC6_127 dX6_used_2 (c_X6_isClass cA (M := M) g) rfl rfl rfl (Nat.le_of_ble_eq_true rfl) ⟨⟨(Nat.le_of_ble_eq_true rfl), (Nat.le_of_ble_eq_true rfl)⟩, (Nat.le_of_ble_eq_true rfl), (Nat.le_of_ble_eq_true rfl)⟩ (fun v M2 hp => ?_)
  obtain ⟨rfl, rfl⟩ := hp
  refine hr_if_eq 12 X dX6_used_5 (by decide) (fun c5 => ?_) (fun c5 => ?_)
  · rw [hm_bI_eq] at c5
    have hz : sp_w (sp_in g 0 3) = 1 := by simp [sp_w, c5]
    refine hr_iconst (1) X dX6_used_12 (by decide) ?_
    exact hr_eq (by rw [hz] <;> rfl) J13
  · rw [hm_bI_ne] at c5
    have hz : sp_w (sp_in g 0 3) = 0 := by simp [sp_w, c5]
    refine hr_iconst (0) X dX6_used_8 (by decide) ?_
    refine hr_goto 13 X dX6_used_9 (by decide) ?_
    exact hr_eq (by rw [hz] <;> rfl) J13
set_option maxHeartbeats 4000000 in
set_option maxRecDepth 100000 in
theorem c_X6_usedAnew (cA : Nat → ClassId) {sg ta : mm_S} {ad : Nat → Nat} {mo : Nat} {M0 M : hm_M} (hR : mm_R cA sg ta ad mo M0 M) (g : Int32) : hm_Met cA yX6_usedAnew cX6_usedAnew 2 (some .int) r_X6_usedAnew [.ref mo, .int g] M (mm_P cA ad mo M0 (sp_w (sp_in g 0 3)) (sp_used sg g) (sg)) := by
  refine hm_met 0 (by decide +kernel) (fun w h => by simp only [List.mem_cons, List.not_mem_nil, or_false] at h; rcases h with rfl | rfl <;> rfl) rfl (fun C X => ?_)
  show hm_W C 0 0 _ M 0 [some (.ref mo), some (.int g)] []
  refine hr_aload_n X dX6_usedAnew_0 rfl (Or.inr ⟨_, rfl⟩) ?_
  refine hr_iload_n X dX6_usedAnew_1 rfl ?_
  refine hr_callV X kC6_239 dX6_usedAnew_2 (c_X6_used cA hR g) hR.1 rfl rfl rfl rfl (Nat.le_of_ble_eq_true rfl) ⟨⟨(Nat.le_of_ble_eq_true rfl), (Nat.le_of_ble_eq_true rfl)⟩, (Nat.le_of_ble_eq_true rfl), (Nat.le_of_ble_eq_true rfl)⟩ (fun v M2 hp2 => ?_)
  obtain ⟨ta1, x, hR, rfl, h0, hx⟩ := hp2
  exact hr_iret X dX6_usedAnew_5 (Nat.le_of_ble_eq_true rfl) (Nat.le_of_ble_eq_true rfl) ⟨_, _, hR, rfl, h0, hx⟩
