set_option maxHeartbeats 4000000 in
set_option maxRecDepth 100000 in
theorem c_X6_average (cA : Nat → ClassId) {sg ta : mm_S} {ad : Nat → Nat} {mo : Nat} {M0 M : hm_M} (hR : mm_R cA sg ta ad mo M0 M) (hI : sp_I sg) (g s : Int32) : hm_Met cA yX6_average cX6_average 6 (some .int) r_X6_average [.ref mo, .int g, .int s] M (mm_P cA ad mo M0 (sp_w (sp_cs sg g s)) (sp_avg sg (12 * nN s + 3 * nN g)) (sg)) := by
  refine hm_met 3 (by decide +kernel) (fun w h => by simp only [List.mem_cons, List.not_mem_nil, or_false] at h; rcases h with rfl | rfl | rfl <;> rfl) rfl (fun C X => ?_)
  show hm_W C 0 0 _ M 0 [some (.ref mo), some (.int g), some (.int s), none, none, none] []
  refine hr_aload_n X dX6_average_0 rfl (Or.inr ⟨_, rfl⟩) ?_
  have J21 : hm_W C 0 0 (hm_T C (mm_P cA ad mo M0 (sp_w (sp_cs sg g s)) (sp_avg sg (12 * nN s + 3 * nN g)) (sg)) r_X6_average.cells r_X6_average.slots) M 21 [some (.ref mo), some (.int g), some (.int s), none, none, none] [.int (sp_w (sp_cs sg g s)), .ref mo] := by
    refine hr_callV X kC6_120 dX6_average_21 (c_X6_refused cA hR (sp_w (sp_cs sg g s))) hR.1 rfl rfl rfl rfl (Nat.le_of_ble_eq_true rfl) ⟨⟨(Nat.le_of_ble_eq_true rfl), (Nat.le_of_ble_eq_true rfl)⟩, (Nat.le_of_ble_eq_true rfl), (Nat.le_of_ble_eq_true rfl)⟩ (fun v M21 hp21 => ?_)
    obtain ⟨hR, rfl⟩ := hp21
    refine hr_if_eq 29 X dX6_average_24 (by decide) (fun c24 => ?_) (fun c24 => ?_)
    · rw [hm_bz] at c24
      have hc0 := sp_w_0.mp c24
      rw [sp_cs, Bool.and_eq_true] at hc0
      obtain ⟨g, hg, rfl⟩ := sp_in_g hc0.1
      obtain ⟨a, ha, ha4, rfl⟩ := sp_isS_nat hI hc0.2
      have e1 : nN (nI a) = a := nI_clamp (by omega)
      have e3 : nN (nI g) = g := nI_clamp (by omega)
      refine hr_iconst (0) X dX6_average_29 (by decide) ?_
      refine hr_istore_n X dX6_average_30 (Nat.le_of_ble_eq_true rfl) ?_
      refine hr_iconst (0) X dX6_average_31 (by decide) ?_
      refine hr_istore X dX6_average_32 (Nat.le_of_ble_eq_true rfl) ?_
      refine hr_bipush (12) X dX6_average_34 (by decide) ?_
      refine hr_iload_n X dX6_average_36 rfl ?_
      refine hr_imul X dX6_average_37 ?_
      refine hr_iconst (3) X dX6_average_38 (by decide) ?_
      refine hr_iload_n X dX6_average_39 rfl ?_
      refine hr_imul X dX6_average_40 ?_
      refine hr_iadd X dX6_average_41 ?_
      refine hr_istore X dX6_average_42 (Nat.le_of_ble_eq_true rfl) ?_
      have lp44 : ∀ (f : Nat) (n : Nat), n ≤ 3 → 3 < n + f → hm_W C (0 + r_X6_refused.cells) (0 + r_X6_refused.slots) (hm_T C (mm_P cA ad mo M0 (sp_w (sp_cs sg (nI g) (nI a))) (sp_avg sg (12 * nN (nI a) + 3 * nN (nI g))) (sg)) r_X6_average.cells r_X6_average.slots) M21 44 [some (.ref mo), some (.int (nI g)), some (.int (nI a)), some (.int (sp_avS sg (12 * a + 3 * g) n)), some (.int (sp_avN sg (12 * a + 3 * g) n)), some (.int (nI ((12 * a + 3 * g) + n)))] [] := by
        intro f
        induction f with
        | zero => intro n h1 h2; exact absurd h2 (by omega)
        | succ f ih =>
          intro n h1 h2
          refine hr_iload X dX6_average_44 rfl ?_
          refine hr_bipush (12) X dX6_average_46 (by decide) ?_
          refine hr_iload_n X dX6_average_48 rfl ?_
          refine hr_imul X dX6_average_49 ?_
          refine hr_iconst (3) X dX6_average_50 (by decide) ?_
          refine hr_iload_n X dX6_average_51 rfl ?_
          refine hr_imul X dX6_average_52 ?_
          refine hr_iadd X dX6_average_53 ?_
          refine hr_iconst (3) X dX6_average_54 (by decide) ?_
          refine hr_iadd X dX6_average_55 ?_
          refine hr_icmp_ge 111 X dX6_average_56 (by decide) (fun c56 => ?_) (fun c56 => ?_)
          · simp only [mm_m12, mm_m3, nI_add, mm_a3] at c56
            have hz : n = 3 := by have := (nI_leI (by omega) (by omega)).mp c56; omega
            subst hz
            refine hr_iload X dX6_average_111 rfl ?_
            refine hr_if_ne 120 X dX6_average_113 (by decide) (fun c113 => ?_) (fun c113 => ?_)
            · have fin : ∀ q : sp_w (sp_cs sg (nI g) (nI a)) = 0, 100 * sp_avS sg (12 * a + 3 * g) 3 / sp_avN sg (12 * a + 3 * g) 3 = sp_avg sg (12 * nN (nI a) + 3 * nN (nI g)) := fun _ => by rw [e1, e3, sp_avg, if_neg c113]
              refine hr_bipush (100) X dX6_average_120 (by decide) ?_
              refine hr_iload_n X dX6_average_122 rfl ?_
              refine hr_imul X dX6_average_123 ?_
              refine hr_iload X dX6_average_124 rfl ?_
              refine hr_idiv X dX6_average_126 c113 ?_
              exact hr_iret X dX6_average_127 (Nat.le_of_ble_eq_true rfl) (Nat.le_of_ble_eq_true rfl) ⟨_, _, hR, rfl, mm_up_s, fin⟩
            · have fin : ∀ q : sp_w (sp_cs sg (nI g) (nI a)) = 0, (-1 : Int32) = sp_avg sg (12 * nN (nI a) + 3 * nN (nI g)) := fun _ => by rw [e1, e3, sp_avg, if_pos c113]
              refine hr_iconst (-1) X dX6_average_116 (by decide) ?_
              refine hr_goto 127 X dX6_average_117 (by decide) ?_
              exact hr_iret X dX6_average_127 (Nat.le_of_ble_eq_true rfl) (Nat.le_of_ble_eq_true rfl) ⟨_, _, hR, rfl, mm_up_s, fin⟩
          · simp only [mm_m12, mm_m3, nI_add, mm_a3] at c56
            have hn : n < 3 := by
              rcases Nat.lt_or_ge n 3 with q | q
              · exact q
              · exact absurd (nI_le (by omega) (by omega)) c56
            have J82 : hm_W C (0 + r_X6_refused.cells) (0 + r_X6_refused.slots) (hm_T C (mm_P cA ad mo M0 (sp_w (sp_cs sg (nI g) (nI a))) (sp_avg sg (12 * nN (nI a) + 3 * nN (nI g))) (sg)) r_X6_average.cells r_X6_average.slots) M21 82 [some (.ref mo), some (.int (nI g)), some (.int (nI a)), some (.int (sp_avS sg (12 * a + 3 * g) n)), some (.int (sp_avN sg (12 * a + 3 * g) n)), some (.int (nI ((12 * a + 3 * g) + n)))] [.int (if sg 13 ((12 * a + 3 * g) + n) = 2 then sg 15 ((12 * a + 3 * g) + n) else 0), .int (sp_avS sg (12 * a + 3 * g) n)] := by
              refine hr_iadd X dX6_average_82 ?_
              refine hr_istore_n X dX6_average_83 (Nat.le_of_ble_eq_true rfl) ?_
              have J102 : hm_W C (0 + r_X6_refused.cells) (0 + r_X6_refused.slots) (hm_T C (mm_P cA ad mo M0 (sp_w (sp_cs sg (nI g) (nI a))) (sp_avg sg (12 * nN (nI a) + 3 * nN (nI g))) (sg)) r_X6_average.cells r_X6_average.slots) M21 102 [some (.ref mo), some (.int (nI g)), some (.int (nI a)), some (.int (sp_avS sg (12 * a + 3 * g) (n + 1))), some (.int (sp_avN sg (12 * a + 3 * g) n)), some (.int (nI ((12 * a + 3 * g) + n)))] [.int (if sg 13 ((12 * a + 3 * g) + n) = 2 then 1 else 0), .int (sp_avN sg (12 * a + 3 * g) n)] := by
                refine hr_iadd X dX6_average_102 ?_
                refine hr_istore X dX6_average_103 (Nat.le_of_ble_eq_true rfl) ?_
                refine hr_iinc (1) X dX6_average_105 rfl (by decide) ?_
                refine hr_goto 44 X dX6_average_108 (by decide) ?_
                rw [mm_a1]
                exact ih (n + 1) (by omega) (by omega)
              refine hr_iload X dX6_average_84 rfl ?_
              refine hr_aload_n X dX6_average_86 rfl (Or.inr ⟨_, rfl⟩) ?_
              refine mm_getA X kF6_44 dX6_average_87 hR 13 rfl ?_
              refine hr_iload X dX6_average_90 rfl ?_
              refine mm_iald ((12 * a + 3 * g) + n) X dX6_average_92 hR rfl rfl (by simp only [mm_len, sp_e]; omega) ?_
              refine hr_iconst (2) X dX6_average_93 (by decide) ?_
              refine hr_icmp_ne 101 X dX6_average_94 (by decide) (fun c94 => ?_) (fun c94 => ?_)
              · refine hr_iconst (0) X dX6_average_101 (by decide) ?_
                exact hr_eq (by simp [c94]) J102
              · refine hr_iconst (1) X dX6_average_97 (by decide) ?_
                refine hr_goto 102 X dX6_average_98 (by decide) ?_
                exact hr_eq (by simp [c94]) J102
            refine hr_iload_n X dX6_average_59 rfl ?_
            refine hr_aload_n X dX6_average_60 rfl (Or.inr ⟨_, rfl⟩) ?_
            refine mm_getA X kF6_44 dX6_average_61 hR 13 rfl ?_
            refine hr_iload X dX6_average_64 rfl ?_
            refine mm_iald ((12 * a + 3 * g) + n) X dX6_average_66 hR rfl rfl (by simp only [mm_len, sp_e]; omega) ?_
            refine hr_iconst (2) X dX6_average_67 (by decide) ?_
            refine hr_icmp_ne 81 X dX6_average_68 (by decide) (fun c68 => ?_) (fun c68 => ?_)
            · refine hr_iconst (0) X dX6_average_81 (by decide) ?_
              exact hr_eq (by simp [c68]) J82
            · refine hr_aload_n X dX6_average_71 rfl (Or.inr ⟨_, rfl⟩) ?_
              refine mm_getA X kF6_50 dX6_average_72 hR 15 rfl ?_
              refine hr_iload X dX6_average_75 rfl ?_
              refine mm_iald ((12 * a + 3 * g) + n) X dX6_average_77 hR rfl rfl (by simp only [mm_len, sp_e]; omega) ?_
              refine hr_goto 82 X dX6_average_78 (by decide) ?_
              exact hr_eq (by simp [c68]) J82
      rw [mm_m12, mm_m3, nI_add]
      exact lp44 4 0 (by decide) (by decide)
    · rw [hm_bz] at c24
      refine hr_iconst (0) X dX6_average_27 (by decide) ?_
      exact hr_iret X dX6_average_28 (Nat.le_of_ble_eq_true rfl) (Nat.le_of_ble_eq_true rfl) ⟨_, _, hR, rfl, mm_up_s, fun q => absurd q c24⟩
  refine hr_iload_n X dX6_average_1 rfl ?_
  refine hr_callS X kC6_127 dX6_average_2 (c_X6_isClass cA (M := M) g) rfl rfl rfl (Nat.le_of_ble_eq_true rfl) ⟨⟨(Nat.le_of_ble_eq_true rfl), (Nat.le_of_ble_eq_true rfl)⟩, (Nat.le_of_ble_eq_true rfl), (Nat.le_of_ble_eq_true rfl)⟩ (fun v M2 hp => ?_)
  obtain ⟨rfl, rfl⟩ := hp
  refine hr_if_eq 20 X dX6_average_5 (by decide) (fun c5 => ?_) (fun c5 => ?_)
  · rw [hm_bI_eq] at c5
    have hz : sp_w (sp_cs sg g s) = 1 := by simp [sp_cs, sp_w, c5]
    refine hr_iconst (1) X dX6_average_20 (by decide) ?_
    exact hr_eq (by rw [hz] <;> rfl) J21
  · rw [hm_bI_ne] at c5
    refine hr_aload_n X dX6_average_8 rfl (Or.inr ⟨_, rfl⟩) ?_
    refine hr_iload_n X dX6_average_9 rfl ?_
    refine hr_callV X kC6_94 dX6_average_10 (c_X6_isSheet cA hR s) hR.1 rfl rfl rfl rfl (Nat.le_of_ble_eq_true rfl) ⟨⟨(Nat.le_of_ble_eq_true rfl), (Nat.le_of_ble_eq_true rfl)⟩, (Nat.le_of_ble_eq_true rfl), (Nat.le_of_ble_eq_true rfl)⟩ (fun v M10 hp => ?_)
    obtain ⟨rfl, rfl⟩ := hp
    refine hr_if_eq 20 X dX6_average_13 (by decide) (fun c13 => ?_) (fun c13 => ?_)
    · rw [hm_bI_eq] at c13
      have hz : sp_w (sp_cs sg g s) = 1 := by simp [sp_cs, sp_w, c13]
      refine hr_iconst (1) X dX6_average_20 (by decide) ?_
      exact hr_eq (by rw [hz] <;> rfl) J21
    · rw [hm_bI_ne] at c13
      have hz : sp_w (sp_cs sg g s) = 0 := by simp [sp_cs, sp_w, c5, c13]
      refine hr_iconst (0) X dX6_average_16 (by decide) ?_
      refine hr_goto 21 X dX6_average_17 (by decide) ?_
      exact hr_eq (by rw [hz] <;> rfl) J21
set_option maxHeartbeats 4000000 in
set_option maxRecDepth 100000 in
theorem c_X6_hand (cA : Nat → ClassId) {sg ta : mm_S} {ad : Nat → Nat} {mo : Nat} {M0 M : hm_M} (hR : mm_R cA sg ta ad mo M0 M) (hI : sp_I sg) (p s : Int32) : hm_Met cA yX6_hand cX6_hand 5 (some .int) r_X6_hand [.ref mo, .int p, .int s] M (mm_P cA ad mo M0 (sp_thHand sg p s) (sp_due sg (sp_k p s)) (if sp_thHand sg p s = 0 then sp_handS sg (sp_k p s) else sg)) := by
  refine hm_met 2 (by decide +kernel) (fun w h => by simp only [List.mem_cons, List.not_mem_nil, or_false] at h; rcases h with rfl | rfl | rfl <;> rfl) rfl (fun C X => ?_)
  show hm_W C 0 0 _ M 0 [some (.ref mo), some (.int p), some (.int s), none, none] []
  refine hr_aload_n X dX6_hand_0 rfl (Or.inr ⟨_, rfl⟩) ?_
  refine hr_iload_n X dX6_hand_1 rfl ?_
  refine hr_iload_n X dX6_hand_2 rfl ?_
  refine hr_callV X kC6_196 dX6_hand_3 (c_X6_areBoth cA hR p s) hR.1 rfl rfl rfl rfl (Nat.le_of_ble_eq_true rfl) ⟨⟨(Nat.le_of_ble_eq_true rfl), (Nat.le_of_ble_eq_true rfl)⟩, (Nat.le_of_ble_eq_true rfl), (Nat.le_of_ble_eq_true rfl)⟩ (fun v M3 hp => ?_)
  obtain ⟨rfl, rfl⟩ := hp
  refine hr_istore_n X dX6_hand_6 (Nat.le_of_ble_eq_true rfl) ?_
  have J36 : hm_W C 0 0 (hm_T C (mm_P cA ad mo M0 (sp_thHand sg p s) (sp_due sg (sp_k p s)) (if sp_thHand sg p s = 0 then sp_handS sg (sp_k p s) else sg)) r_X6_hand.cells r_X6_hand.slots) M 36 [some (.ref mo), some (.int p), some (.int s), some (.int (hm_bI (sp_both sg p s))), none] [.int (sp_thHand sg p s), .ref mo] := by
    refine hr_callV X kC6_120 dX6_hand_36 (c_X6_refused cA hR (sp_thHand sg p s)) hR.1 rfl rfl rfl rfl (Nat.le_of_ble_eq_true rfl) ⟨⟨(Nat.le_of_ble_eq_true rfl), (Nat.le_of_ble_eq_true rfl)⟩, (Nat.le_of_ble_eq_true rfl), (Nat.le_of_ble_eq_true rfl)⟩ (fun v M36 hp36 => ?_)
    obtain ⟨hR, rfl⟩ := hp36
    refine hr_if_eq 44 X dX6_hand_39 (by decide) (fun c39 => ?_) (fun c39 => ?_)
    · rw [hm_bz] at c39
      rw [if_pos c39]
      have hb0 : sp_both sg p s = true := by
        cases h : sp_both sg p s with
        | true => rfl
        | false => rw [sp_thHand, h, if_neg (by decide)] at c39; exact absurd c39 (by decide)
      obtain ⟨a, b, ha, hb, hb4, rfl, rfl, e1, e2⟩ := sp_both_nat hI hb0
      have ek : sp_k (nI a) (nI b) = 12 * b + a := by rw [sp_k, e1, e2]
      have h13 : sg 13 (12 * b + a) = 1 := by
        by_cases h : sg 13 (12 * b + a) = 1
        · exact h
        · rw [sp_thHand, if_pos hb0, ek, if_neg h] at c39; exact absurd c39 (by decide)
      have hI2 := hI.hand h13
      have hd2 : sp_due (mm_up sg 13 (12 * b + a) 2) (12 * b + a) = sp_due sg (12 * b + a) := sp_due_congr2 (fun j h _ _ _ => mm_up_j h) _
      obtain ⟨hks, v, hv, hvt⟩ := sp_handed hI2 (k := 12 * b + a) (by omega) (by rw [mm_up_s]; decide)
      refine hr_bipush (12) X dX6_hand_44 (by decide) ?_
      refine hr_iload_n X dX6_hand_46 rfl ?_
      refine hr_imul X dX6_hand_47 ?_
      refine hr_iload_n X dX6_hand_48 rfl ?_
      refine hr_iadd X dX6_hand_49 ?_
      rw [show (12 * nI b + nI a : Int32) = nI (12 * b + a) by rw [mm_m12, nI_add]]
      refine hr_istore X dX6_hand_50 (Nat.le_of_ble_eq_true rfl) ?_
      refine hr_aload_n X dX6_hand_52 rfl (Or.inr ⟨_, rfl⟩) ?_
      refine mm_getA X kF6_44 dX6_hand_53 hR 13 rfl ?_
      refine hr_iload X dX6_hand_56 rfl ?_
      refine hr_iconst (2) X dX6_hand_58 (by decide) ?_
      refine mm_iast (12 * b + a) X dX6_hand_59 hR rfl rfl (by simp only [mm_len, sp_e]; omega) (fun M59 hR => ?_)
      refine hr_aload_n X dX6_hand_60 rfl (Or.inr ⟨_, rfl⟩) ?_
      refine mm_getA X kF6_50 dX6_hand_61 hR 15 rfl ?_
      refine hr_iload X dX6_hand_64 rfl ?_
      refine hr_aload_n X dX6_hand_66 rfl (Or.inr ⟨_, rfl⟩) ?_
      refine hr_iload X dX6_hand_67 rfl ?_
      refine hr_callV X kC6_180 dX6_hand_69 (c_X6_dueOf cA hR hI2 (12 * b + a) v (by omega) hks hv hvt) hR.1 rfl rfl rfl rfl (Nat.le_of_ble_eq_true rfl) ⟨⟨(Nat.le_of_ble_eq_true rfl), (Nat.le_of_ble_eq_true rfl)⟩, (Nat.le_of_ble_eq_true rfl), (Nat.le_of_ble_eq_true rfl)⟩ (fun v M69 hp69 => ?_)
      obtain ⟨ta1, hR, rfl, hta1⟩ := hp69
      rw [hd2]
      refine mm_iast (12 * b + a) X dX6_hand_72 hR rfl rfl (by simp only [mm_len, sp_e]; omega) (fun M72 hR => ?_)
      refine hr_aload_n X dX6_hand_73 rfl (Or.inr ⟨_, rfl⟩) ?_
      refine mm_getA X kF6_50 dX6_hand_74 hR 15 rfl ?_
      refine hr_iload X dX6_hand_77 rfl ?_
      refine mm_iald (12 * b + a) X dX6_hand_79 hR rfl rfl (by simp only [mm_len, sp_e]; omega) ?_
      rw [mm_up_s]
      exact hr_iret X dX6_hand_80 (Nat.le_of_ble_eq_true rfl) (Nat.le_of_ble_eq_true rfl) ⟨_, _, by rw [ek]; exact hR, rfl, by rw [hta1 0 (by decide)]; exact mm_up_s, fun _ => by rw [ek]⟩
    · rw [hm_bz] at c39
      rw [if_neg c39]
      refine hr_iconst (0) X dX6_hand_42 (by decide) ?_
      exact hr_iret X dX6_hand_43 (Nat.le_of_ble_eq_true rfl) (Nat.le_of_ble_eq_true rfl) ⟨_, _, hR, rfl, mm_up_s, fun q => absurd q c39⟩
  refine hr_aload_n X dX6_hand_7 rfl (Or.inr ⟨_, rfl⟩) ?_
  refine hr_iload_n X dX6_hand_8 rfl ?_
  refine hr_if_ne 16 X dX6_hand_9 (by decide) (fun c9 => ?_) (fun c9 => ?_)
  · rw [hm_bI_ne] at c9
    obtain ⟨a, b, ha, hb, hb4, rfl, rfl, e1, e2⟩ := sp_both_nat hI c9
    have ek : sp_k (nI a) (nI b) = 12 * b + a := by rw [sp_k, e1, e2]
    refine hr_aload_n X dX6_hand_16 rfl (Or.inr ⟨_, rfl⟩) ?_
    refine mm_getA X kF6_44 dX6_hand_17 hR 13 rfl ?_
    refine hr_bipush (12) X dX6_hand_20 (by decide) ?_
    refine hr_iload_n X dX6_hand_22 rfl ?_
    refine hr_imul X dX6_hand_23 ?_
    refine hr_iload_n X dX6_hand_24 rfl ?_
    refine hr_iadd X dX6_hand_25 ?_
    refine mm_iald (12 * b + a) X dX6_hand_26 hR rfl (by simp only [mm_m2, mm_m3, mm_m4, mm_m5, mm_m12, mm_m16, nI_add, mm_a1, mm_a2, mm_a3, mm_a5, mm_a12, sp_e]) (by simp only [mm_len, sp_e]; omega) ?_
    refine hr_iconst (1) X dX6_hand_27 (by decide) ?_
    refine hr_icmp_ne 35 X dX6_hand_28 (by decide) (fun c28 => ?_) (fun c28 => ?_)
    · have hz : sp_thHand sg (nI a) (nI b) = 2 := by rw [sp_thHand, if_pos c9, ek, if_neg c28]
      refine hr_iconst (2) X dX6_hand_35 (by decide) ?_
      exact hr_eq (by rw [hz] <;> rfl) J36
    · have hz : sp_thHand sg (nI a) (nI b) = 0 := by rw [sp_thHand, if_pos c9, ek, if_pos c28]
      refine hr_iconst (0) X dX6_hand_31 (by decide) ?_
      refine hr_goto 36 X dX6_hand_32 (by decide) ?_
      exact hr_eq (by rw [hz] <;> rfl) J36
  · rw [hm_bI_eq] at c9
    have hz : sp_thHand sg p s = 1 := by simp [sp_thHand, c9]
    refine hr_iconst (1) X dX6_hand_12 (by decide) ?_
    refine hr_goto 36 X dX6_hand_13 (by decide) ?_
    exact hr_eq (by rw [hz] <;> rfl) J36
set_option maxHeartbeats 4000000 in
set_option maxRecDepth 100000 in
theorem c_X6_forget (cA : Nat → ClassId) {sg ta : mm_S} {ad : Nat → Nat} {mo : Nat} {M0 M : hm_M} (hR : mm_R cA sg ta ad mo M0 M) (k : Nat) (hk : k < 48) : hm_Met cA yX6_forget cX6_forget 3 none r_X6_forget [.ref mo, .int (nI k)] M (fun r9 M' => mm_R cA (sp_fgT sg k 5) ta ad mo M0 M' ∧ r9 = none) := by
  refine hm_met 1 (by decide +kernel) (fun w h => by simp only [List.mem_cons, List.not_mem_nil, or_false] at h; rcases h with rfl | rfl <;> rfl) rfl (fun C X => ?_)
  show hm_W C 0 0 _ M 0 [some (.ref mo), some (.int (nI k)), none] []
  refine hr_aload_n X dX6_forget_0 rfl (Or.inr ⟨_, rfl⟩) ?_
  refine mm_getA X kF6_44 dX6_forget_1 hR 13 rfl ?_
  refine hr_iload_n X dX6_forget_4 rfl ?_
  refine hr_iconst (0) X dX6_forget_5 (by decide) ?_
  refine mm_iast (k) X dX6_forget_6 hR rfl rfl (by simp only [mm_len, sp_e]; omega) (fun M6 hR => ?_)
  refine hr_iconst (5) X dX6_forget_7 (by decide) ?_
  refine hr_iload_n X dX6_forget_8 rfl ?_
  refine hr_imul X dX6_forget_9 ?_
  refine hr_istore_n X dX6_forget_10 (Nat.le_of_ble_eq_true rfl) ?_
  have lp11 : ∀ (f : Nat) (t : Nat) (M : hm_M), mm_R cA (sp_fgT sg k t) ta ad mo M0 M → t ≤ 5 → 5 < t + f → hm_W C 0 0 (hm_T C (fun r9 M' => mm_R cA (sp_fgT sg k 5) ta ad mo M0 M' ∧ r9 = none) r_X6_forget.cells r_X6_forget.slots) M 11 [some (.ref mo), some (.int (nI k)), some (.int (nI (5 * k + t)))] [] := by
    intro f
    induction f with
    | zero => intro t M hR h1 h2; exact absurd h2 (by omega)
    | succ f ih =>
      intro t M hR h1 h2
      refine hr_iload_n X dX6_forget_11 rfl ?_
      refine hr_iconst (5) X dX6_forget_12 (by decide) ?_
      refine hr_iload_n X dX6_forget_13 rfl ?_
      refine hr_imul X dX6_forget_14 ?_
      refine hr_iconst (5) X dX6_forget_15 (by decide) ?_
      refine hr_iadd X dX6_forget_16 ?_
      refine hr_icmp_ge 54 X dX6_forget_17 (by decide) (fun c17 => ?_) (fun c17 => ?_)
      · simp only [mm_m5, mm_a5] at c17
        have hz : t = 5 := by have := (nI_leI (by omega) (by omega)).mp c17; omega
        subst hz
        exact hr_vret X dX6_forget_54 (Nat.le_of_ble_eq_true rfl) (Nat.le_of_ble_eq_true rfl) ⟨hR, rfl⟩
      · simp only [mm_m5, mm_a5] at c17
        have ht : t < 5 := by
          rcases Nat.lt_or_ge t 5 with q | q
          · exact q
          · exact absurd (nI_le (by omega) (by omega)) c17
        refine hr_aload_n X dX6_forget_20 rfl (Or.inr ⟨_, rfl⟩) ?_
        refine mm_getA X kF6_56 dX6_forget_21 hR 17 rfl ?_
        refine hr_iload_n X dX6_forget_24 rfl ?_
        refine hr_iconst (0) X dX6_forget_25 (by decide) ?_
        refine mm_zast (5 * k + t) X dX6_forget_26 hR rfl rfl (by simp only [mm_len, sp_e]; omega) rfl (fun M26 hR => ?_)
        refine hr_aload_n X dX6_forget_27 rfl (Or.inr ⟨_, rfl⟩) ?_
        refine mm_getA X kF6_59 dX6_forget_28 hR 18 rfl ?_
        refine hr_iload_n X dX6_forget_31 rfl ?_
        refine hr_iconst (0) X dX6_forget_32 (by decide) ?_
        refine mm_iast (5 * k + t) X dX6_forget_33 hR rfl rfl (by simp only [mm_len, sp_e]; omega) (fun M33 hR => ?_)
        refine hr_aload_n X dX6_forget_34 rfl (Or.inr ⟨_, rfl⟩) ?_
        refine mm_getA X kF6_62 dX6_forget_35 hR 19 rfl ?_
        refine hr_iload_n X dX6_forget_38 rfl ?_
        refine hr_iconst (0) X dX6_forget_39 (by decide) ?_
        refine mm_iast (5 * k + t) X dX6_forget_40 hR rfl rfl (by simp only [mm_len, sp_e]; omega) (fun M40 hR => ?_)
        refine hr_aload_n X dX6_forget_41 rfl (Or.inr ⟨_, rfl⟩) ?_
        refine mm_getA X kF6_65 dX6_forget_42 hR 20 rfl ?_
        refine hr_iload_n X dX6_forget_45 rfl ?_
        refine hr_iconst (0) X dX6_forget_46 (by decide) ?_
        refine mm_iast (5 * k + t) X dX6_forget_47 hR rfl rfl (by simp only [mm_len, sp_e]; omega) (fun M47 hR => ?_)
        refine hr_iinc (1) X dX6_forget_48 rfl (by decide) ?_
        refine hr_goto 11 X dX6_forget_51 (by decide) ?_
        rw [mm_a1]
        exact ih (t + 1) _ hR (by omega) (by omega)
  rw [mm_m5]
  exact lp11 6 0 _ hR (by decide) (by decide)
set_option maxHeartbeats 4000000 in
set_option maxRecDepth 100000 in
theorem c_X6_open (cA : Nat → ClassId) {sg ta : mm_S} {ad : Nat → Nat} {mo : Nat} {M0 M : hm_M} (hR : mm_R cA sg ta ad mo M0 M) (hI : sp_I sg) (p s : Int32) : hm_Met cA yX6_open cX6_open 6 (some .int) r_X6_open [.ref mo, .int p, .int s] M (mm_P cA ad mo M0 (sp_thOpen sg p s) (sg 10 (4 * nN s + nN p / 3)) (if sp_thOpen sg p s = 0 then sp_openS sg (nN p) (nN s) else sg)) := by
  refine hm_met 3 (by decide +kernel) (fun w h => by simp only [List.mem_cons, List.not_mem_nil, or_false] at h; rcases h with rfl | rfl | rfl <;> rfl) rfl (fun C X => ?_)
  show hm_W C 0 0 _ M 0 [some (.ref mo), some (.int p), some (.int s), none, none, none] []
  refine hr_aload_n X dX6_open_0 rfl (Or.inr ⟨_, rfl⟩) ?_
  refine hr_iload_n X dX6_open_1 rfl ?_
  refine hr_iload_n X dX6_open_2 rfl ?_
  refine hr_callV X kC6_196 dX6_open_3 (c_X6_areBoth cA hR p s) hR.1 rfl rfl rfl rfl (Nat.le_of_ble_eq_true rfl) ⟨⟨(Nat.le_of_ble_eq_true rfl), (Nat.le_of_ble_eq_true rfl)⟩, (Nat.le_of_ble_eq_true rfl), (Nat.le_of_ble_eq_true rfl)⟩ (fun v M3 hp => ?_)
  obtain ⟨rfl, rfl⟩ := hp
  refine hr_istore_n X dX6_open_6 (Nat.le_of_ble_eq_true rfl) ?_
  have J45 : hm_W C 0 0 (hm_T C (mm_P cA ad mo M0 (sp_thOpen sg p s) (sg 10 (4 * nN s + nN p / 3)) (if sp_thOpen sg p s = 0 then sp_openS sg (nN p) (nN s) else sg)) r_X6_open.cells r_X6_open.slots) M 45 [some (.ref mo), some (.int p), some (.int s), some (.int (hm_bI (sp_both sg p s))), none, none] [.int (hm_bI (sp_both sg p s && sp_canO sg (nN p) (nN s)))] := by
    refine hr_istore X dX6_open_45 (Nat.le_of_ble_eq_true rfl) ?_
    have J66 : hm_W C 0 0 (hm_T C (mm_P cA ad mo M0 (sp_thOpen sg p s) (sg 10 (4 * nN s + nN p / 3)) (if sp_thOpen sg p s = 0 then sp_openS sg (nN p) (nN s) else sg)) r_X6_open.cells r_X6_open.slots) M 66 [some (.ref mo), some (.int p), some (.int s), some (.int (hm_bI (sp_both sg p s))), some (.int (hm_bI (sp_both sg p s && sp_canO sg (nN p) (nN s)))), none] [.int (sp_thOpen sg p s), .ref mo] := by
      refine hr_callV X kC6_120 dX6_open_66 (c_X6_refused cA hR (sp_thOpen sg p s)) hR.1 rfl rfl rfl rfl (Nat.le_of_ble_eq_true rfl) ⟨⟨(Nat.le_of_ble_eq_true rfl), (Nat.le_of_ble_eq_true rfl)⟩, (Nat.le_of_ble_eq_true rfl), (Nat.le_of_ble_eq_true rfl)⟩ (fun v M66 hp66 => ?_)
      obtain ⟨hR, rfl⟩ := hp66
      refine hr_if_eq 74 X dX6_open_69 (by decide) (fun c69 => ?_) (fun c69 => ?_)
      · rw [hm_bz] at c69
        rw [if_pos c69]
        have hb0 : sp_both sg p s = true := by
          cases h : sp_both sg p s with
          | true => rfl
          | false => rw [sp_thOpen, h, if_neg (by decide)] at c69; exact absurd c69 (by decide)
        obtain ⟨a, b, ha, hb, hb4, rfl, rfl, e1, e2⟩ := sp_both_nat hI hb0
        have ek : sp_k (nI a) (nI b) = 12 * b + a := by rw [sp_k, e1, e2]
        refine hr_bipush (12) X dX6_open_74 (by decide) ?_
        refine hr_iload_n X dX6_open_76 rfl ?_
        refine hr_imul X dX6_open_77 ?_
        refine hr_iload_n X dX6_open_78 rfl ?_
        refine hr_iadd X dX6_open_79 ?_
        rw [show (12 * nI b + nI a : Int32) = nI (12 * b + a) by rw [mm_m12, nI_add]]
        refine hr_istore X dX6_open_80 (Nat.le_of_ble_eq_true rfl) ?_
        refine hr_aload_n X dX6_open_82 rfl (Or.inr ⟨_, rfl⟩) ?_
        refine mm_getA X kF6_44 dX6_open_83 hR 13 rfl ?_
        refine hr_iload X dX6_open_86 rfl ?_
        refine hr_iconst (1) X dX6_open_88 (by decide) ?_
        refine mm_iast (12 * b + a) X dX6_open_89 hR rfl rfl (by simp only [mm_len, sp_e]; omega) (fun M89 hR => ?_)
        refine hr_aload_n X dX6_open_90 rfl (Or.inr ⟨_, rfl⟩) ?_
        refine mm_getA X kF6_47 dX6_open_91 hR 14 rfl ?_
        refine hr_iload X dX6_open_94 rfl ?_
        refine hr_aload_n X dX6_open_96 rfl (Or.inr ⟨_, rfl⟩) ?_
        refine mm_getA X kF6_35 dX6_open_97 hR 10 rfl ?_
        refine hr_iconst (4) X dX6_open_100 (by decide) ?_
        refine hr_iload_n X dX6_open_101 rfl ?_
        refine hr_imul X dX6_open_102 ?_
        refine hr_iload_n X dX6_open_103 rfl ?_
        refine hr_iconst (3) X dX6_open_104 (by decide) ?_
        refine hr_idiv X dX6_open_105 (by decide) ?_
        rw [mm_d3 (by omega)]
        refine hr_iadd X dX6_open_106 ?_
        refine mm_iald (4 * b + a / 3) X dX6_open_107 hR rfl (by simp only [mm_m2, mm_m3, mm_m4, mm_m5, mm_m12, mm_m16, nI_add, mm_a1, mm_a2, mm_a3, mm_a5, mm_a12, sp_e]) (by simp only [mm_len, sp_e]; omega) ?_
        refine mm_iast (12 * b + a) X dX6_open_108 hR rfl rfl (by simp only [mm_len, sp_e]; omega) (fun M108 hR => ?_)
        refine hr_aload_n X dX6_open_109 rfl (Or.inr ⟨_, rfl⟩) ?_
        refine mm_getA X kF6_47 dX6_open_110 hR 14 rfl ?_
        refine hr_iload X dX6_open_113 rfl ?_
        refine mm_iald (12 * b + a) X dX6_open_115 hR rfl rfl (by simp only [mm_len, sp_e]; omega) ?_
        rw [mm_up_s]
        exact hr_iret X dX6_open_116 (Nat.le_of_ble_eq_true rfl) (Nat.le_of_ble_eq_true rfl) ⟨_, _, by rw [e1, e2]; exact hR, rfl, mm_up_s, fun _ => by rw [e1, e2]; rfl⟩
      · rw [hm_bz] at c69
        rw [if_neg c69]
        refine hr_iconst (0) X dX6_open_72 (by decide) ?_
        exact hr_iret X dX6_open_73 (Nat.le_of_ble_eq_true rfl) (Nat.le_of_ble_eq_true rfl) ⟨_, _, hR, rfl, mm_up_s, fun q => absurd q c69⟩
    refine hr_aload_n X dX6_open_47 rfl (Or.inr ⟨_, rfl⟩) ?_
    refine hr_iload_n X dX6_open_48 rfl ?_
    refine hr_if_ne 56 X dX6_open_49 (by decide) (fun c49 => ?_) (fun c49 => ?_)
    · rw [hm_bI_ne] at c49
      refine hr_iload X dX6_open_56 rfl ?_
      refine hr_if_eq 65 X dX6_open_58 (by decide) (fun c58 => ?_) (fun c58 => ?_)
      · rw [hm_bI_eq] at c58
        rw [c49, Bool.true_and] at c58
        have hz : sp_thOpen sg p s = 2 := by rw [sp_thOpen, if_pos c49, c58]; rfl
        refine hr_iconst (2) X dX6_open_65 (by decide) ?_
        exact hr_eq (by rw [hz] <;> rfl) J66
      · rw [hm_bI_ne] at c58
        rw [c49, Bool.true_and] at c58
        have hz : sp_thOpen sg p s = 0 := by rw [sp_thOpen, if_pos c49, c58]; rfl
        refine hr_iconst (0) X dX6_open_61 (by decide) ?_
        refine hr_goto 66 X dX6_open_62 (by decide) ?_
        exact hr_eq (by rw [hz] <;> rfl) J66
    · rw [hm_bI_eq] at c49
      have hz : sp_thOpen sg p s = 1 := by simp [sp_thOpen, c49]
      refine hr_iconst (1) X dX6_open_52 (by decide) ?_
      refine hr_goto 66 X dX6_open_53 (by decide) ?_
      exact hr_eq (by rw [hz] <;> rfl) J66
  refine hr_iload_n X dX6_open_7 rfl ?_
  refine hr_if_eq 44 X dX6_open_8 (by decide) (fun c8 => ?_) (fun c8 => ?_)
  · rw [hm_bI_eq] at c8
    have hz : (sp_both sg p s && sp_canO sg (nN p) (nN s)) = false := by simp [c8]
    refine hr_iconst (0) X dX6_open_44 (by decide) ?_
    exact hr_eq (by rw [hz] <;> rfl) J45
  · rw [hm_bI_ne] at c8
    obtain ⟨a, b, ha, hb, hb4, rfl, rfl, e1, e2⟩ := sp_both_nat hI c8
    have ek : sp_k (nI a) (nI b) = 12 * b + a := by rw [sp_k, e1, e2]
    refine hr_aload_n X dX6_open_11 rfl (Or.inr ⟨_, rfl⟩) ?_
    refine mm_getA X kF6_44 dX6_open_12 hR 13 rfl ?_
    refine hr_bipush (12) X dX6_open_15 (by decide) ?_
    refine hr_iload_n X dX6_open_17 rfl ?_
    refine hr_imul X dX6_open_18 ?_
    refine hr_iload_n X dX6_open_19 rfl ?_
    refine hr_iadd X dX6_open_20 ?_
    refine mm_iald (12 * b + a) X dX6_open_21 hR rfl (by simp only [mm_m2, mm_m3, mm_m4, mm_m5, mm_m12, mm_m16, nI_add, mm_a1, mm_a2, mm_a3, mm_a5, mm_a12, sp_e]) (by simp only [mm_len, sp_e]; omega) ?_
    refine hr_if_ne 44 X dX6_open_22 (by decide) (fun c22 => ?_) (fun c22 => ?_)
    · have hz : (sp_both sg (nI a) (nI b) && sp_canO sg (nN (nI a)) (nN (nI b))) = false := by rw [e1, e2, sp_canO]; simp [c22]
      refine hr_iconst (0) X dX6_open_44 (by decide) ?_
      exact hr_eq (by rw [hz] <;> rfl) J45
    · refine hr_aload_n X dX6_open_25 rfl (Or.inr ⟨_, rfl⟩) ?_
      refine mm_getA X kF6_38 dX6_open_26 hR 11 rfl ?_
      refine hr_iconst (4) X dX6_open_29 (by decide) ?_
      refine hr_iload_n X dX6_open_30 rfl ?_
      refine hr_imul X dX6_open_31 ?_
      refine hr_iload_n X dX6_open_32 rfl ?_
      refine hr_iconst (3) X dX6_open_33 (by decide) ?_
      refine hr_idiv X dX6_open_34 (by decide) ?_
      rw [mm_d3 (by omega)]
      refine hr_iadd X dX6_open_35 ?_
      refine mm_zald (4 * b + a / 3) X dX6_open_36 hR rfl (by simp only [mm_m2, mm_m3, mm_m4, mm_m5, mm_m12, mm_m16, nI_add, mm_a1, mm_a2, mm_a3, mm_a5, mm_a12, sp_e]) (by simp only [mm_len, sp_e]; omega) ?_
      refine hr_if_ne 44 X dX6_open_37 (by decide) (fun c37 => ?_) (fun c37 => ?_)
      · have hz : (sp_both sg (nI a) (nI b) && sp_canO sg (nN (nI a)) (nN (nI b))) = false := by rw [e1, e2, sp_canO]; simp [c37]
        refine hr_iconst (0) X dX6_open_44 (by decide) ?_
        exact hr_eq (by rw [hz] <;> rfl) J45
      · have hz : (sp_both sg (nI a) (nI b) && sp_canO sg (nN (nI a)) (nN (nI b))) = true := by rw [e1, e2, sp_canO, c8]; simp [c22, c37]
        refine hr_iconst (1) X dX6_open_40 (by decide) ?_
        refine hr_goto 45 X dX6_open_41 (by decide) ?_
        exact hr_eq (by rw [hz] <;> rfl) J45
set_option maxHeartbeats 4000000 in
set_option maxRecDepth 100000 in
theorem c_X6_close (cA : Nat → ClassId) {sg ta : mm_S} {ad : Nat → Nat} {mo : Nat} {M0 M : hm_M} (hR : mm_R cA sg ta ad mo M0 M) (hI : sp_I sg) (g s : Int32) : hm_Met cA yX6_close cX6_close 6 (some .int) r_X6_close [.ref mo, .int g, .int s] M (mm_P cA ad mo M0 (sp_thClose sg g s) (sp_clN (mm_up sg 11 (4 * nN s + nN g) 1) (12 * nN s + 3 * nN g) 3) (if sp_thClose sg g s = 0 then sp_clS (mm_up sg 11 (4 * nN s + nN g) 1) (12 * nN s + 3 * nN g) 3 else sg)) := by
  refine hm_met 3 (by decide +kernel) (fun w h => by simp only [List.mem_cons, List.not_mem_nil, or_false] at h; rcases h with rfl | rfl | rfl <;> rfl) rfl (fun C X => ?_)
  show hm_W C 0 0 _ M 0 [some (.ref mo), some (.int g), some (.int s), none, none, none] []
  have J20 : hm_W C 0 0 (hm_T C (mm_P cA ad mo M0 (sp_thClose sg g s) (sp_clN (mm_up sg 11 (4 * nN s + nN g) 1) (12 * nN s + 3 * nN g) 3) (if sp_thClose sg g s = 0 then sp_clS (mm_up sg 11 (4 * nN s + nN g) 1) (12 * nN s + 3 * nN g) 3 else sg)) r_X6_close.cells r_X6_close.slots) M 20 [some (.ref mo), some (.int g), some (.int s), none, none, none] [.int (hm_bI (sp_cs sg g s))] := by
    refine hr_istore_n X dX6_close_20 (Nat.le_of_ble_eq_true rfl) ?_
    have J48 : hm_W C 0 0 (hm_T C (mm_P cA ad mo M0 (sp_thClose sg g s) (sp_clN (mm_up sg 11 (4 * nN s + nN g) 1) (12 * nN s + 3 * nN g) 3) (if sp_thClose sg g s = 0 then sp_clS (mm_up sg 11 (4 * nN s + nN g) 1) (12 * nN s + 3 * nN g) 3 else sg)) r_X6_close.cells r_X6_close.slots) M 48 [some (.ref mo), some (.int g), some (.int s), some (.int (hm_bI (sp_cs sg g s))), none, none] [.int (sp_thClose sg g s), .ref mo] := by
      refine hr_callV X kC6_120 dX6_close_48 (c_X6_refused cA hR (sp_thClose sg g s)) hR.1 rfl rfl rfl rfl (Nat.le_of_ble_eq_true rfl) ⟨⟨(Nat.le_of_ble_eq_true rfl), (Nat.le_of_ble_eq_true rfl)⟩, (Nat.le_of_ble_eq_true rfl), (Nat.le_of_ble_eq_true rfl)⟩ (fun v M48 hp48 => ?_)
      obtain ⟨hR, rfl⟩ := hp48
      refine hr_if_eq 56 X dX6_close_51 (by decide) (fun c51 => ?_) (fun c51 => ?_)
      · rw [hm_bz] at c51
        rw [if_pos c51]
        have hc0 : sp_cs sg g s = true := by
          cases h : sp_cs sg g s with
          | true => rfl
          | false => rw [sp_thClose, h, if_neg (by decide)] at c51; exact absurd c51 (by decide)
        have hc1 := hc0
        rw [sp_cs, Bool.and_eq_true] at hc1
        obtain ⟨g, hg, rfl⟩ := sp_in_g hc1.1
        obtain ⟨a, ha, ha4, rfl⟩ := sp_isS_nat hI hc1.2
        have e1 : nN (nI a) = a := nI_clamp (by omega)
        have e3 : nN (nI g) = g := nI_clamp (by omega)
        refine hr_aload_n X dX6_close_56 rfl (Or.inr ⟨_, rfl⟩) ?_
        refine mm_getA X kF6_38 dX6_close_57 hR 11 rfl ?_
        refine hr_iconst (4) X dX6_close_60 (by decide) ?_
        refine hr_iload_n X dX6_close_61 rfl ?_
        refine hr_imul X dX6_close_62 ?_
        refine hr_iload_n X dX6_close_63 rfl ?_
        refine hr_iadd X dX6_close_64 ?_
        refine hr_iconst (1) X dX6_close_65 (by decide) ?_
        refine mm_zast (4 * a + g) X dX6_close_66 hR rfl (by simp only [mm_m2, mm_m3, mm_m4, mm_m5, mm_m12, mm_m16, nI_add, mm_a1, mm_a2, mm_a3, mm_a5, mm_a12, sp_e]) (by simp only [mm_len, sp_e]; omega) rfl (fun M66 hR => ?_)
        refine hr_iconst (0) X dX6_close_67 (by decide) ?_
        refine hr_istore X dX6_close_68 (Nat.le_of_ble_eq_true rfl) ?_
        refine hr_bipush (12) X dX6_close_70 (by decide) ?_
        refine hr_iload_n X dX6_close_72 rfl ?_
        refine hr_imul X dX6_close_73 ?_
        refine hr_iconst (3) X dX6_close_74 (by decide) ?_
        refine hr_iload_n X dX6_close_75 rfl ?_
        refine hr_imul X dX6_close_76 ?_
        refine hr_iadd X dX6_close_77 ?_
        refine hr_istore X dX6_close_78 (Nat.le_of_ble_eq_true rfl) ?_
        have lp80 : ∀ (f : Nat) (n : Nat) (M : hm_M), mm_R cA (sp_clS (mm_up sg 11 (4 * a + g) 1) (12 * a + 3 * g) n) (mm_up ta 0 0 (sp_thClose sg (nI g) (nI a))) ad mo M0 M → n ≤ 3 → 3 < n + f → hm_W C (0 + r_X6_refused.cells) (0 + r_X6_refused.slots) (hm_T C (mm_P cA ad mo M0 (sp_thClose sg (nI g) (nI a)) (sp_clN (mm_up sg 11 (4 * nN (nI a) + nN (nI g)) 1) (12 * nN (nI a) + 3 * nN (nI g)) 3) (sp_clS (mm_up sg 11 (4 * nN (nI a) + nN (nI g)) 1) (12 * nN (nI a) + 3 * nN (nI g)) 3)) r_X6_close.cells r_X6_close.slots) M 80 [some (.ref mo), some (.int (nI g)), some (.int (nI a)), some (.int (hm_bI (sp_cs sg (nI g) (nI a)))), some (.int (sp_clN (mm_up sg 11 (4 * a + g) 1) (12 * a + 3 * g) n)), some (.int (nI ((12 * a + 3 * g) + n)))] [] := by
          intro f
          induction f with
          | zero => intro n M hR h1 h2; exact absurd h2 (by omega)
          | succ f ih =>
            intro n M hR h1 h2
            refine hr_iload X dX6_close_80 rfl ?_
            refine hr_bipush (12) X dX6_close_82 (by decide) ?_
            refine hr_iload_n X dX6_close_84 rfl ?_
            refine hr_imul X dX6_close_85 ?_
            refine hr_iconst (3) X dX6_close_86 (by decide) ?_
            refine hr_iload_n X dX6_close_87 rfl ?_
            refine hr_imul X dX6_close_88 ?_
            refine hr_iadd X dX6_close_89 ?_
            refine hr_iconst (3) X dX6_close_90 (by decide) ?_
            refine hr_iadd X dX6_close_91 ?_
            refine hr_icmp_ge 139 X dX6_close_92 (by decide) (fun c92 => ?_) (fun c92 => ?_)
            · simp only [mm_m12, mm_m3, nI_add, mm_a3] at c92
              have hz : n = 3 := by have := (nI_leI (by omega) (by omega)).mp c92; omega
              subst hz
              refine hr_iload X dX6_close_139 rfl ?_
              exact hr_iret X dX6_close_141 (Nat.le_of_ble_eq_true rfl) (Nat.le_of_ble_eq_true rfl) ⟨_, _, by rw [e1, e3]; exact hR, rfl, mm_up_s, fun _ => by rw [e1, e3]⟩
            · simp only [mm_m12, mm_m3, nI_add, mm_a3] at c92
              have hn : n < 3 := by
                rcases Nat.lt_or_ge n 3 with q | q
                · exact q
                · exact absurd (nI_le (by omega) (by omega)) c92
              have J113 : hm_W C (0 + r_X6_refused.cells) (0 + r_X6_refused.slots) (hm_T C (mm_P cA ad mo M0 (sp_thClose sg (nI g) (nI a)) (sp_clN (mm_up sg 11 (4 * nN (nI a) + nN (nI g)) 1) (12 * nN (nI a) + 3 * nN (nI g)) 3) (sp_clS (mm_up sg 11 (4 * nN (nI a) + nN (nI g)) 1) (12 * nN (nI a) + 3 * nN (nI g)) 3)) r_X6_close.cells r_X6_close.slots) M 113 [some (.ref mo), some (.int (nI g)), some (.int (nI a)), some (.int (hm_bI (sp_cs sg (nI g) (nI a)))), some (.int (sp_clN (mm_up sg 11 (4 * a + g) 1) (12 * a + 3 * g) n)), some (.int (nI ((12 * a + 3 * g) + n)))] [.int (if sp_clS (mm_up sg 11 (4 * a + g) 1) (12 * a + 3 * g) n 13 ((12 * a + 3 * g) + n) = 2 then 1 else 0), .int (sp_clN (mm_up sg 11 (4 * a + g) 1) (12 * a + 3 * g) n)] := by
                refine hr_iadd X dX6_close_113 ?_
                refine hr_istore X dX6_close_114 (Nat.le_of_ble_eq_true rfl) ?_
                refine hr_aload_n X dX6_close_116 rfl (Or.inr ⟨_, rfl⟩) ?_
                refine mm_getA X kF6_44 dX6_close_117 hR 13 rfl ?_
                refine hr_iload X dX6_close_120 rfl ?_
                refine mm_iald ((12 * a + 3 * g) + n) X dX6_close_122 hR rfl rfl (by simp only [mm_len, sp_e]; omega) ?_
                refine hr_iconst (1) X dX6_close_123 (by decide) ?_
                refine hr_icmp_ne 133 X dX6_close_124 (by decide) (fun c124 => ?_) (fun c124 => ?_)
                · have hRn : mm_R cA (sp_clS (mm_up sg 11 (4 * a + g) 1) (12 * a + 3 * g) (n + 1)) (mm_up ta 0 0 (sp_thClose sg (nI g) (nI a))) ad mo M0 M := by rw [sp_clS, if_neg c124]; exact hR
                  refine hr_iinc (1) X dX6_close_133 rfl (by decide) ?_
                  refine hr_goto 80 X dX6_close_136 (by decide) ?_
                  rw [mm_a1]
                  exact ih (n + 1) _ hRn (by omega) (by omega)
                · refine hr_aload_n X dX6_close_127 rfl (Or.inr ⟨_, rfl⟩) ?_
                  refine hr_iload X dX6_close_128 rfl ?_
                  refine hr_callV X kC6_205 dX6_close_130 (c_X6_forget cA hR ((12 * a + 3 * g) + n) (by omega)) hR.1 rfl rfl rfl rfl (Nat.le_of_ble_eq_true rfl) ⟨⟨(Nat.le_of_ble_eq_true rfl), (Nat.le_of_ble_eq_true rfl)⟩, (Nat.le_of_ble_eq_true rfl), (Nat.le_of_ble_eq_true rfl)⟩ (fun v M130 hp130 => ?_)
                  obtain ⟨hR, rfl⟩ := hp130
                  have hRn : mm_R cA (sp_clS (mm_up sg 11 (4 * a + g) 1) (12 * a + 3 * g) (n + 1)) (mm_up ta 0 0 (sp_thClose sg (nI g) (nI a))) ad mo M0 M130 := by rw [sp_clS, if_pos c124]; exact hR
                  refine hr_iinc (1) X dX6_close_133 rfl (by decide) ?_
                  refine hr_goto 80 X dX6_close_136 (by decide) ?_
                  rw [mm_a1]
                  exact ih (n + 1) _ hRn (by omega) (by omega)
              refine hr_iload X dX6_close_95 rfl ?_
              refine hr_aload_n X dX6_close_97 rfl (Or.inr ⟨_, rfl⟩) ?_
              refine mm_getA X kF6_44 dX6_close_98 hR 13 rfl ?_
              refine hr_iload X dX6_close_101 rfl ?_
              refine mm_iald ((12 * a + 3 * g) + n) X dX6_close_103 hR rfl rfl (by simp only [mm_len, sp_e]; omega) ?_
              refine hr_iconst (2) X dX6_close_104 (by decide) ?_
              refine hr_icmp_ne 112 X dX6_close_105 (by decide) (fun c105 => ?_) (fun c105 => ?_)
              · refine hr_iconst (0) X dX6_close_112 (by decide) ?_
                exact hr_eq (by simp [c105]) J113
              · refine hr_iconst (1) X dX6_close_108 (by decide) ?_
                refine hr_goto 113 X dX6_close_109 (by decide) ?_
                exact hr_eq (by simp [c105]) J113
        rw [mm_m12, mm_m3, nI_add]
        exact lp80 4 0 _ hR (by decide) (by decide)
      · rw [hm_bz] at c51
        rw [if_neg c51]
        refine hr_iconst (0) X dX6_close_54 (by decide) ?_
        exact hr_iret X dX6_close_55 (Nat.le_of_ble_eq_true rfl) (Nat.le_of_ble_eq_true rfl) ⟨_, _, hR, rfl, mm_up_s, fun q => absurd q c51⟩
    refine hr_aload_n X dX6_close_21 rfl (Or.inr ⟨_, rfl⟩) ?_
    refine hr_iload_n X dX6_close_22 rfl ?_
    refine hr_if_ne 30 X dX6_close_23 (by decide) (fun c23 => ?_) (fun c23 => ?_)
    · rw [hm_bI_ne] at c23
      have hc0 := c23
      rw [sp_cs, Bool.and_eq_true] at hc0
      obtain ⟨g, hg, rfl⟩ := sp_in_g hc0.1
      obtain ⟨a, ha, ha4, rfl⟩ := sp_isS_nat hI hc0.2
      have e1 : nN (nI a) = a := nI_clamp (by omega)
      have e3 : nN (nI g) = g := nI_clamp (by omega)
      refine hr_aload_n X dX6_close_30 rfl (Or.inr ⟨_, rfl⟩) ?_
      refine mm_getA X kF6_38 dX6_close_31 hR 11 rfl ?_
      refine hr_iconst (4) X dX6_close_34 (by decide) ?_
      refine hr_iload_n X dX6_close_35 rfl ?_
      refine hr_imul X dX6_close_36 ?_
      refine hr_iload_n X dX6_close_37 rfl ?_
      refine hr_iadd X dX6_close_38 ?_
      refine mm_zald (4 * a + g) X dX6_close_39 hR rfl (by simp only [mm_m2, mm_m3, mm_m4, mm_m5, mm_m12, mm_m16, nI_add, mm_a1, mm_a2, mm_a3, mm_a5, mm_a12, sp_e]) (by simp only [mm_len, sp_e]; omega) ?_
      refine hr_if_eq 47 X dX6_close_40 (by decide) (fun c40 => ?_) (fun c40 => ?_)
      · have hz : sp_thClose sg (nI g) (nI a) = 0 := by rw [sp_thClose, if_pos c23, e1, e3, if_pos c40]
        refine hr_iconst (0) X dX6_close_47 (by decide) ?_
        exact hr_eq (by rw [hz] <;> rfl) J48
      · have hz : sp_thClose sg (nI g) (nI a) = 2 := by rw [sp_thClose, if_pos c23, e1, e3, if_neg c40]
        refine hr_iconst (2) X dX6_close_43 (by decide) ?_
        refine hr_goto 48 X dX6_close_44 (by decide) ?_
        exact hr_eq (by rw [hz] <;> rfl) J48
    · rw [hm_bI_eq] at c23
      have hz : sp_thClose sg g s = 1 := by simp [sp_thClose, c23]
      refine hr_iconst (1) X dX6_close_26 (by decide) ?_
      refine hr_goto 48 X dX6_close_27 (by decide) ?_
      exact hr_eq (by rw [hz] <;> rfl) J48
  refine hr_iload_n X dX6_close_0 rfl ?_
  refine hr_callS X kC6_127 dX6_close_1 (c_X6_isClass cA (M := M) g) rfl rfl rfl (Nat.le_of_ble_eq_true rfl) ⟨⟨(Nat.le_of_ble_eq_true rfl), (Nat.le_of_ble_eq_true rfl)⟩, (Nat.le_of_ble_eq_true rfl), (Nat.le_of_ble_eq_true rfl)⟩ (fun v M1 hp => ?_)
  obtain ⟨rfl, rfl⟩ := hp
  refine hr_if_eq 19 X dX6_close_4 (by decide) (fun c4 => ?_) (fun c4 => ?_)
  · rw [hm_bI_eq] at c4
    have hz : sp_cs sg g s = false := by simp [sp_cs, c4]
    refine hr_iconst (0) X dX6_close_19 (by decide) ?_
    exact hr_eq (by rw [hz] <;> rfl) J20
  · rw [hm_bI_ne] at c4
    refine hr_aload_n X dX6_close_7 rfl (Or.inr ⟨_, rfl⟩) ?_
    refine hr_iload_n X dX6_close_8 rfl ?_
    refine hr_callV X kC6_94 dX6_close_9 (c_X6_isSheet cA hR s) hR.1 rfl rfl rfl rfl (Nat.le_of_ble_eq_true rfl) ⟨⟨(Nat.le_of_ble_eq_true rfl), (Nat.le_of_ble_eq_true rfl)⟩, (Nat.le_of_ble_eq_true rfl), (Nat.le_of_ble_eq_true rfl)⟩ (fun v M9 hp => ?_)
    obtain ⟨rfl, rfl⟩ := hp
    refine hr_if_eq 19 X dX6_close_12 (by decide) (fun c12 => ?_) (fun c12 => ?_)
    · rw [hm_bI_eq] at c12
      have hz : sp_cs sg g s = false := by simp [sp_cs, c12]
      refine hr_iconst (0) X dX6_close_19 (by decide) ?_
      exact hr_eq (by rw [hz] <;> rfl) J20
    · rw [hm_bI_ne] at c12
      have hz : sp_cs sg g s = true := by simp [sp_cs, c4, c12]
      refine hr_iconst (1) X dX6_close_15 (by decide) ?_
      refine hr_goto 20 X dX6_close_16 (by decide) ?_
      exact hr_eq (by rw [hz] <;> rfl) J20
