set_option maxHeartbeats 4000000 in
set_option maxRecDepth 100000 in
theorem c_X6_child (cA : Nat → ClassId) {sg ta : mm_S} {ad : Nat → Nat} {mo : Nat} {M0 M : hm_M} (hR : mm_R cA sg ta ad mo M0 M) (s v : Nat) (hs : s < 4) (hv : v < 16) : hm_Met cA yX6_child cX6_child 6 (some .int) r_X6_child [.ref mo, .int (nI s), .int (nI v)] M (hm_pu (some (.int (sp_ch sg s v 16))) M) := by
  refine hm_met 3 (by decide +kernel) (fun w h => by simp only [List.mem_cons, List.not_mem_nil, or_false] at h; rcases h with rfl | rfl | rfl <;> rfl) rfl (fun C X => ?_)
  show hm_W C 0 0 _ M 0 [some (.ref mo), some (.int (nI s)), some (.int (nI v)), none, none, none] []
  refine hr_iconst (-1) X dX6_child_0 (by decide) ?_
  refine hr_istore_n X dX6_child_1 (Nat.le_of_ble_eq_true rfl) ?_
  refine hr_iconst (0) X dX6_child_2 (by decide) ?_
  refine hr_istore X dX6_child_3 (Nat.le_of_ble_eq_true rfl) ?_
  have lp5 : ∀ (f : Nat) (k : Nat) (y : Option Value), k ≤ 16 → 16 < k + f → hm_W C 0 0 (hm_T C (hm_pu (some (.int (sp_ch sg s v 16))) M) r_X6_child.cells r_X6_child.slots) M 5 [some (.ref mo), some (.int (nI s)), some (.int (nI v)), some (.int (sp_ch sg s v k)), some (.int (nI k)), y] [] := by
    intro f
    induction f with
    | zero => intro k y h1 h2; exact absurd h2 (by omega)
    | succ f ih =>
      intro k y h1 h2
      refine hr_iload X dX6_child_5 rfl ?_
      refine hr_bipush (16) X dX6_child_7 (by decide) ?_
      refine hr_icmp_ge 84 X dX6_child_9 (by decide) (fun c9 => ?_) (fun c9 => ?_)
      · have hz : k = 16 := by have := (nI_leI (a := 16) (by decide) (by omega)).mp c9; omega
        subst hz
        refine hr_iload_n X dX6_child_84 rfl ?_
        exact hr_iret X dX6_child_85 (Nat.le_of_ble_eq_true rfl) (Nat.le_of_ble_eq_true rfl) ⟨rfl, rfl⟩
      · have hn : k < 16 := by
          rcases Nat.lt_or_ge k 16 with q | q
          · exact q
          · exact absurd (nI_le (by omega) (by omega)) c9
        have J54 : hm_W C 0 0 (hm_T C (hm_pu (some (.int (sp_ch sg s v 16))) M) r_X6_child.cells r_X6_child.slots) M 54 [some (.ref mo), some (.int (nI s)), some (.int (nI v)), some (.int (sp_ch sg s v k)), some (.int (nI k)), y] [.int (hm_bI (sp_isCh sg s v k))] := by
          refine hr_istore X dX6_child_54 (Nat.le_of_ble_eq_true rfl) ?_
          have J77 : hm_W C 0 0 (hm_T C (hm_pu (some (.int (sp_ch sg s v 16))) M) r_X6_child.cells r_X6_child.slots) M 77 [some (.ref mo), some (.int (nI s)), some (.int (nI v)), some (.int (sp_ch sg s v k)), some (.int (nI k)), some (.int (hm_bI (sp_isCh sg s v k)))] [.int (sp_ch sg s v (k + 1))] := by
            refine hr_istore_n X dX6_child_77 (Nat.le_of_ble_eq_true rfl) ?_
            refine hr_iinc (1) X dX6_child_78 rfl (by decide) ?_
            refine hr_goto 5 X dX6_child_81 (by decide) ?_
            rw [mm_a1]
            exact ih (k + 1) _ (by omega) (by omega)
          refine hr_iload X dX6_child_56 rfl ?_
          refine hr_if_ne 65 X dX6_child_58 (by decide) (fun c58 => ?_) (fun c58 => ?_)
          · rw [hm_bI_ne] at c58
            refine hr_iload_n X dX6_child_65 rfl ?_
            refine hr_iconst (-1) X dX6_child_66 (by decide) ?_
            refine hr_icmp_ne 75 X dX6_child_67 (by decide) (fun c67 => ?_) (fun c67 => ?_)
            · have hz : sp_ch sg s v (k + 1) = -2 := by rw [sp_ch, if_pos c58, if_neg c67]
              refine hr_bipush (-2) X dX6_child_75 (by decide) ?_
              exact hr_eq (by rw [hz] <;> rfl) J77
            · have hz : sp_ch sg s v (k + 1) = nI k := by rw [sp_ch, if_pos c58, if_pos c67]
              refine hr_iload X dX6_child_70 rfl ?_
              refine hr_goto 77 X dX6_child_72 (by decide) ?_
              exact hr_eq (by rw [hz] <;> rfl) J77
          · rw [hm_bI_eq] at c58
            have hz : sp_ch sg s v (k + 1) = (sp_ch sg s v k) := by rw [sp_ch, c58]; rfl
            refine hr_iload_n X dX6_child_61 rfl ?_
            refine hr_goto 77 X dX6_child_62 (by decide) ?_
            exact hr_eq (by rw [hz] <;> rfl) J77
        refine hr_aload_n X dX6_child_12 rfl (Or.inr ⟨_, rfl⟩) ?_
        refine mm_getA X kF6_7 dX6_child_13 hR 2 rfl ?_
        refine hr_bipush (16) X dX6_child_16 (by decide) ?_
        refine hr_iload_n X dX6_child_18 rfl ?_
        refine hr_imul X dX6_child_19 ?_
        refine hr_iload X dX6_child_20 rfl ?_
        refine hr_iadd X dX6_child_22 ?_
        refine mm_zald (16 * s + k) X dX6_child_23 hR rfl (by simp only [mm_m2, mm_m3, mm_m4, mm_m5, mm_m12, mm_m16, nI_add, mm_a1, mm_a2, mm_a3, mm_a5, mm_a12, sp_e]) (by simp only [mm_len, sp_e]; omega) ?_
        refine hr_if_eq 53 X dX6_child_24 (by decide) (fun c24 => ?_) (fun c24 => ?_)
        · have hz : (sp_isCh sg s v k) = false := by simp [sp_isCh, c24]
          refine hr_iconst (0) X dX6_child_53 (by decide) ?_
          exact hr_eq (by rw [hz] <;> rfl) J54
        · refine hr_iload X dX6_child_27 rfl ?_
          refine hr_iload_n X dX6_child_29 rfl ?_
          refine hr_icmp_eq 53 X dX6_child_30 (by decide) (fun c30 => ?_) (fun c30 => ?_)
          · have hz : (sp_isCh sg s v k) = false := by simp [sp_isCh, c24, c30]
            refine hr_iconst (0) X dX6_child_53 (by decide) ?_
            exact hr_eq (by rw [hz] <;> rfl) J54
          · refine hr_aload_n X dX6_child_33 rfl (Or.inr ⟨_, rfl⟩) ?_
            refine mm_getA X kF6_13 dX6_child_34 hR 3 rfl ?_
            refine hr_bipush (16) X dX6_child_37 (by decide) ?_
            refine hr_iload_n X dX6_child_39 rfl ?_
            refine hr_imul X dX6_child_40 ?_
            refine hr_iload X dX6_child_41 rfl ?_
            refine hr_iadd X dX6_child_43 ?_
            refine mm_iald (16 * s + k) X dX6_child_44 hR rfl (by simp only [mm_m2, mm_m3, mm_m4, mm_m5, mm_m12, mm_m16, nI_add, mm_a1, mm_a2, mm_a3, mm_a5, mm_a12, sp_e]) (by simp only [mm_len, sp_e]; omega) ?_
            refine hr_iload_n X dX6_child_45 rfl ?_
            refine hr_icmp_ne 53 X dX6_child_46 (by decide) (fun c46 => ?_) (fun c46 => ?_)
            · have hz : (sp_isCh sg s v k) = false := by simp [sp_isCh, c24, c30, c46]
              refine hr_iconst (0) X dX6_child_53 (by decide) ?_
              exact hr_eq (by rw [hz] <;> rfl) J54
            · have hz : (sp_isCh sg s v k) = true := by simp [sp_isCh, c24, c30, c46]
              refine hr_iconst (1) X dX6_child_49 (by decide) ?_
              refine hr_goto 54 X dX6_child_50 (by decide) ?_
              exact hr_eq (by rw [hz] <;> rfl) J54
  exact lp5 17 0 none (by decide) (by decide)
set_option maxHeartbeats 4000000 in
set_option maxRecDepth 100000 in
theorem c_X6_isNeeded (cA : Nat → ClassId) {sg ta : mm_S} {ad : Nat → Nat} {mo : Nat} {M0 M : hm_M} (hR : mm_R cA sg ta ad mo M0 M) (s v : Nat) (hs : s < 4) (hv : v < 16) : hm_Met cA yX6_isNeeded cX6_isNeeded 5 (some .boolean) r_X6_isNeeded [.ref mo, .int (nI s), .int (nI v)] M (hm_pu (some (.int (hm_bI (sp_need sg s v)))) M) := by
  refine hm_met 2 (by decide +kernel) (fun w h => by simp only [List.mem_cons, List.not_mem_nil, or_false] at h; rcases h with rfl | rfl | rfl <;> rfl) rfl (fun C X => ?_)
  show hm_W C 0 0 _ M 0 [some (.ref mo), some (.int (nI s)), some (.int (nI v)), none, none] []
  have J9 : hm_W C 0 0 (hm_T C (hm_pu (some (.int (hm_bI (sp_need sg s v)))) M) r_X6_isNeeded.cells r_X6_isNeeded.slots) M 9 [some (.ref mo), some (.int (nI s)), some (.int (nI v)), none, none] [.int (hm_bI (decide (nI v = 0)))] := by
    refine hr_istore_n X dX6_isNeeded_9 (Nat.le_of_ble_eq_true rfl) ?_
    refine hr_iconst (0) X dX6_isNeeded_10 (by decide) ?_
    refine hr_istore X dX6_isNeeded_11 (Nat.le_of_ble_eq_true rfl) ?_
    have lp13 : ∀ (f : Nat) (k : Nat), k ≤ 4 → 4 < k + f → hm_W C 0 0 (hm_T C (hm_pu (some (.int (hm_bI (sp_need sg s v)))) M) r_X6_isNeeded.cells r_X6_isNeeded.slots) M 13 [some (.ref mo), some (.int (nI s)), some (.int (nI v)), some (.int (hm_bI (sp_ndH sg s v k))), some (.int (nI k))] [] := by
      intro f
      induction f with
      | zero => intro k h1 h2; exact absurd h2 (by omega)
      | succ f ih =>
        intro k h1 h2
        refine hr_iload X dX6_isNeeded_13 rfl ?_
        refine hr_iconst (4) X dX6_isNeeded_15 (by decide) ?_
        refine hr_icmp_ge 50 X dX6_isNeeded_16 (by decide) (fun c16 => ?_) (fun c16 => ?_)
        · have hz : k = 4 := by have := (nI_leI (a := 4) (by decide) (by omega)).mp c16; omega
          subst hz
          refine hr_iconst (0) X dX6_isNeeded_50 (by decide) ?_
          refine hr_istore X dX6_isNeeded_51 (Nat.le_of_ble_eq_true rfl) ?_
          have lp53 : ∀ (f : Nat) (k : Nat), k ≤ 12 → 12 < k + f → hm_W C 0 0 (hm_T C (hm_pu (some (.int (hm_bI (sp_need sg s v)))) M) r_X6_isNeeded.cells r_X6_isNeeded.slots) M 53 [some (.ref mo), some (.int (nI s)), some (.int (nI v)), some (.int (hm_bI (sp_ndA sg s v k))), some (.int (nI k))] [] := by
            intro f
            induction f with
            | zero => intro k h3 h4; exact absurd h4 (by omega)
            | succ f ih53 =>
              intro k h3 h4
              refine hr_iload X dX6_isNeeded_53 rfl ?_
              refine hr_bipush (12) X dX6_isNeeded_55 (by decide) ?_
              refine hr_icmp_ge 107 X dX6_isNeeded_57 (by decide) (fun c57 => ?_) (fun c57 => ?_)
              · have hz : k = 12 := by have := (nI_leI (a := 12) (by decide) (by omega)).mp c57; omega
                subst hz
                refine hr_iload_n X dX6_isNeeded_107 rfl ?_
                refine hr_if_ne 122 X dX6_isNeeded_108 (by decide) (fun c108 => ?_) (fun c108 => ?_)
                · rw [hm_bI_ne] at c108
                  have hz : sp_need sg s v = true := by rw [sp_need, c108]; rfl
                  refine hr_iconst (1) X dX6_isNeeded_122 (by decide) ?_
                  refine hr_goto 127 X dX6_isNeeded_123 (by decide) ?_
                  exact hr_zret X dX6_isNeeded_127 (by rfl) (Nat.le_of_ble_eq_true rfl) (Nat.le_of_ble_eq_true rfl) ⟨by rw [hz]; rfl, rfl⟩
                · rw [hm_bI_eq] at c108
                  refine hr_aload_n X dX6_isNeeded_111 rfl (Or.inr ⟨_, rfl⟩) ?_
                  refine hr_iload_n X dX6_isNeeded_112 rfl ?_
                  refine hr_iload_n X dX6_isNeeded_113 rfl ?_
                  refine hr_callV X kC6_152 dX6_isNeeded_114 (c_X6_child cA hR s v hs hv) hR.1 rfl rfl rfl rfl (Nat.le_of_ble_eq_true rfl) ⟨⟨(Nat.le_of_ble_eq_true rfl), (Nat.le_of_ble_eq_true rfl)⟩, (Nat.le_of_ble_eq_true rfl), (Nat.le_of_ble_eq_true rfl)⟩ (fun v M114 hp => ?_)
                  obtain ⟨rfl, rfl⟩ := hp
                  refine hr_bipush (-2) X dX6_isNeeded_117 (by decide) ?_
                  refine hr_icmp_ne 126 X dX6_isNeeded_119 (by decide) (fun c119 => ?_) (fun c119 => ?_)
                  · have hz : sp_need sg s v = false := by rw [sp_need, c108, decide_eq_false c119]; rfl
                    refine hr_iconst (0) X dX6_isNeeded_126 (by decide) ?_
                    exact hr_zret X dX6_isNeeded_127 (by rfl) (Nat.le_of_ble_eq_true rfl) (Nat.le_of_ble_eq_true rfl) ⟨by rw [hz]; rfl, rfl⟩
                  · have hz : sp_need sg s v = true := by rw [sp_need, decide_eq_true c119]; simp
                    refine hr_iconst (1) X dX6_isNeeded_122 (by decide) ?_
                    refine hr_goto 127 X dX6_isNeeded_123 (by decide) ?_
                    exact hr_zret X dX6_isNeeded_127 (by rfl) (Nat.le_of_ble_eq_true rfl) (Nat.le_of_ble_eq_true rfl) ⟨by rw [hz]; rfl, rfl⟩
              · have hn : k < 12 := by
                  rcases Nat.lt_or_ge k 12 with q | q
                  · exact q
                  · exact absurd (nI_le (by omega) (by omega)) c57
                have J100 : hm_W C 0 0 (hm_T C (hm_pu (some (.int (hm_bI (sp_need sg s v)))) M) r_X6_isNeeded.cells r_X6_isNeeded.slots) M 100 [some (.ref mo), some (.int (nI s)), some (.int (nI v)), some (.int (hm_bI (sp_ndA sg s v k))), some (.int (nI k))] [.int (hm_bI (sp_ndA sg s v (k + 1)))] := by
                  refine hr_istore_n X dX6_isNeeded_100 (Nat.le_of_ble_eq_true rfl) ?_
                  refine hr_iinc (1) X dX6_isNeeded_101 rfl (by decide) ?_
                  refine hr_goto 53 X dX6_isNeeded_104 (by decide) ?_
                  rw [mm_a1]
                  exact ih53 (k + 1) (by omega) (by omega)
                refine hr_iload_n X dX6_isNeeded_60 rfl ?_
                refine hr_if_ne 95 X dX6_isNeeded_61 (by decide) (fun c61 => ?_) (fun c61 => ?_)
                · rw [hm_bI_ne] at c61
                  have hz : sp_ndA sg s v (k + 1) = true := by rw [sp_ndA, c61]; rfl
                  refine hr_iconst (1) X dX6_isNeeded_95 (by decide) ?_
                  refine hr_goto 100 X dX6_isNeeded_96 (by decide) ?_
                  exact hr_eq (by rw [hz] <;> rfl) J100
                · rw [hm_bI_eq] at c61
                  refine hr_aload_n X dX6_isNeeded_64 rfl (Or.inr ⟨_, rfl⟩) ?_
                  refine mm_getA X kF6_44 dX6_isNeeded_65 hR 13 rfl ?_
                  refine hr_bipush (12) X dX6_isNeeded_68 (by decide) ?_
                  refine hr_iload_n X dX6_isNeeded_70 rfl ?_
                  refine hr_imul X dX6_isNeeded_71 ?_
                  refine hr_iload X dX6_isNeeded_72 rfl ?_
                  refine hr_iadd X dX6_isNeeded_74 ?_
                  refine mm_iald (12 * s + k) X dX6_isNeeded_75 hR rfl (by simp only [mm_m2, mm_m3, mm_m4, mm_m5, mm_m12, mm_m16, nI_add, mm_a1, mm_a2, mm_a3, mm_a5, mm_a12, sp_e]) (by simp only [mm_len, sp_e]; omega) ?_
                  refine hr_if_eq 99 X dX6_isNeeded_76 (by decide) (fun c76 => ?_) (fun c76 => ?_)
                  · have hz : sp_ndA sg s v (k + 1) = false := by rw [sp_ndA, c61, decide_eq_true c76]; rfl
                    refine hr_iconst (0) X dX6_isNeeded_99 (by decide) ?_
                    exact hr_eq (by rw [hz] <;> rfl) J100
                  · refine hr_aload_n X dX6_isNeeded_79 rfl (Or.inr ⟨_, rfl⟩) ?_
                    refine mm_getA X kF6_47 dX6_isNeeded_80 hR 14 rfl ?_
                    refine hr_bipush (12) X dX6_isNeeded_83 (by decide) ?_
                    refine hr_iload_n X dX6_isNeeded_85 rfl ?_
                    refine hr_imul X dX6_isNeeded_86 ?_
                    refine hr_iload X dX6_isNeeded_87 rfl ?_
                    refine hr_iadd X dX6_isNeeded_89 ?_
                    refine mm_iald (12 * s + k) X dX6_isNeeded_90 hR rfl (by simp only [mm_m2, mm_m3, mm_m4, mm_m5, mm_m12, mm_m16, nI_add, mm_a1, mm_a2, mm_a3, mm_a5, mm_a12, sp_e]) (by simp only [mm_len, sp_e]; omega) ?_
                    refine hr_iload_n X dX6_isNeeded_91 rfl ?_
                    refine hr_icmp_ne 99 X dX6_isNeeded_92 (by decide) (fun c92 => ?_) (fun c92 => ?_)
                    · have hz : sp_ndA sg s v (k + 1) = false := by rw [sp_ndA, c61, decide_eq_false c92]; simp
                      refine hr_iconst (0) X dX6_isNeeded_99 (by decide) ?_
                      exact hr_eq (by rw [hz] <;> rfl) J100
                    · have hz : sp_ndA sg s v (k + 1) = true := by rw [sp_ndA, decide_eq_false c76, decide_eq_true c92]; simp
                      refine hr_iconst (1) X dX6_isNeeded_95 (by decide) ?_
                      refine hr_goto 100 X dX6_isNeeded_96 (by decide) ?_
                      exact hr_eq (by rw [hz] <;> rfl) J100
          exact lp53 13 0 (by decide) (by decide)
        · have hn : k < 4 := by
            rcases Nat.lt_or_ge k 4 with q | q
            · exact q
            · exact absurd (nI_le (by omega) (by omega)) c16
          have J43 : hm_W C 0 0 (hm_T C (hm_pu (some (.int (hm_bI (sp_need sg s v)))) M) r_X6_isNeeded.cells r_X6_isNeeded.slots) M 43 [some (.ref mo), some (.int (nI s)), some (.int (nI v)), some (.int (hm_bI (sp_ndH sg s v k))), some (.int (nI k))] [.int (hm_bI (sp_ndH sg s v (k + 1)))] := by
            refine hr_istore_n X dX6_isNeeded_43 (Nat.le_of_ble_eq_true rfl) ?_
            refine hr_iinc (1) X dX6_isNeeded_44 rfl (by decide) ?_
            refine hr_goto 13 X dX6_isNeeded_47 (by decide) ?_
            rw [mm_a1]
            exact ih (k + 1) (by omega) (by omega)
          refine hr_iload_n X dX6_isNeeded_19 rfl ?_
          refine hr_if_ne 38 X dX6_isNeeded_20 (by decide) (fun c20 => ?_) (fun c20 => ?_)
          · rw [hm_bI_ne] at c20
            have hz : sp_ndH sg s v (k + 1) = true := by rw [sp_ndH, c20]; rfl
            refine hr_iconst (1) X dX6_isNeeded_38 (by decide) ?_
            refine hr_goto 43 X dX6_isNeeded_39 (by decide) ?_
            exact hr_eq (by rw [hz] <;> rfl) J43
          · rw [hm_bI_eq] at c20
            refine hr_aload_n X dX6_isNeeded_23 rfl (Or.inr ⟨_, rfl⟩) ?_
            refine mm_getA X kF6_35 dX6_isNeeded_24 hR 10 rfl ?_
            refine hr_iconst (4) X dX6_isNeeded_27 (by decide) ?_
            refine hr_iload_n X dX6_isNeeded_28 rfl ?_
            refine hr_imul X dX6_isNeeded_29 ?_
            refine hr_iload X dX6_isNeeded_30 rfl ?_
            refine hr_iadd X dX6_isNeeded_32 ?_
            refine mm_iald (4 * s + k) X dX6_isNeeded_33 hR rfl (by simp only [mm_m2, mm_m3, mm_m4, mm_m5, mm_m12, mm_m16, nI_add, mm_a1, mm_a2, mm_a3, mm_a5, mm_a12, sp_e]) (by simp only [mm_len, sp_e]; omega) ?_
            refine hr_iload_n X dX6_isNeeded_34 rfl ?_
            refine hr_icmp_ne 42 X dX6_isNeeded_35 (by decide) (fun c35 => ?_) (fun c35 => ?_)
            · have hz : sp_ndH sg s v (k + 1) = false := by rw [sp_ndH, c20, decide_eq_false c35]; rfl
              refine hr_iconst (0) X dX6_isNeeded_42 (by decide) ?_
              exact hr_eq (by rw [hz] <;> rfl) J43
            · have hz : sp_ndH sg s v (k + 1) = true := by rw [sp_ndH, decide_eq_true c35]; simp
              refine hr_iconst (1) X dX6_isNeeded_38 (by decide) ?_
              refine hr_goto 43 X dX6_isNeeded_39 (by decide) ?_
              exact hr_eq (by rw [hz] <;> rfl) J43
    exact lp13 5 0 (by decide) (by decide)
  refine hr_iload_n X dX6_isNeeded_0 rfl ?_
  refine hr_if_ne 8 X dX6_isNeeded_1 (by decide) (fun c1 => ?_) (fun c1 => ?_)
  · have hz : decide (nI v = 0) = false := decide_eq_false c1
    refine hr_iconst (0) X dX6_isNeeded_8 (by decide) ?_
    exact hr_eq (by rw [hz] <;> rfl) J9
  · have hz : decide (nI v = 0) = true := decide_eq_true c1
    refine hr_iconst (1) X dX6_isNeeded_4 (by decide) ?_
    refine hr_goto 9 X dX6_isNeeded_5 (by decide) ?_
    exact hr_eq (by rw [hz] <;> rfl) J9
theorem hm_bI_inj {a b : Bool} : hm_bI a = hm_bI b ↔ a = b := by cases a <;> cases b <;> simp [hm_bI]
set_option maxHeartbeats 4000000 in
set_option maxRecDepth 100000 in
theorem c_X6_passes (cA : Nat → ClassId) {sg ta : mm_S} {ad : Nat → Nat} {mo : Nat} {M0 M : hm_M} (hR : mm_R cA sg ta ad mo M0 M) (fr : Nat) (to : Option Nat) (b : Bool) (hf : fr < 64) (ht : ∀ t, to = some t → t < 64) : hm_Met cA yX6_passes cX6_passes 7 (some .int) r_X6_passes [.ref mo, .int (nI fr), .int (sp_o to), .int (hm_bI b)] M (hm_pu (some (.int (sp_pass sg fr to b))) M) := by
  refine hm_met 3 (by decide +kernel) (fun w h => by simp only [List.mem_cons, List.not_mem_nil, or_false] at h; rcases h with rfl | rfl | rfl | rfl <;> rfl) rfl (fun C X => ?_)
  show hm_W C 0 0 _ M 0 [some (.ref mo), some (.int (nI fr)), some (.int (sp_o to)), some (.int (hm_bI b)), none, none, none] []
  refine hr_iconst (0) X dX6_passes_0 (by decide) ?_
  refine hr_istore X dX6_passes_1 (Nat.le_of_ble_eq_true rfl) ?_
  refine hr_iconst (0) X dX6_passes_3 (by decide) ?_
  refine hr_istore X dX6_passes_4 (Nat.le_of_ble_eq_true rfl) ?_
  have lp6 : ∀ (f : Nat) (k : Nat) (y : Option Value), k ≤ 5 → 5 < k + f → hm_W C 0 0 (hm_T C (hm_pu (some (.int (sp_pass sg fr to b))) M) r_X6_passes.cells r_X6_passes.slots) M 6 [some (.ref mo), some (.int (nI fr)), some (.int (sp_o to)), some (.int (hm_bI b)), some (.int (sp_is (fun k => if sp_goes sg to k = b then sp_cost sg (5 * fr + k) else 0) k)), some (.int (nI k)), y] [] := by
    intro f
    induction f with
    | zero => intro k y h1 h2; exact absurd h2 (by omega)
    | succ f ih =>
      intro k y h1 h2
      refine hr_iload X dX6_passes_6 rfl ?_
      refine hr_iconst (5) X dX6_passes_8 (by decide) ?_
      refine hr_icmp_ge 70 X dX6_passes_9 (by decide) (fun c9 => ?_) (fun c9 => ?_)
      · have hz : k = 5 := by have := (nI_leI (a := 5) (by decide) (by omega)).mp c9; omega
        subst hz
        refine hr_iload X dX6_passes_70 rfl ?_
        exact hr_iret X dX6_passes_72 (Nat.le_of_ble_eq_true rfl) (Nat.le_of_ble_eq_true rfl) ⟨rfl, rfl⟩
      · have hn : k < 5 := by
          rcases Nat.lt_or_ge k 5 with q | q
          · exact q
          · exact absurd (nI_le (by omega) (by omega)) c9
        have J37 : hm_W C 0 0 (hm_T C (hm_pu (some (.int (sp_pass sg fr to b))) M) r_X6_passes.cells r_X6_passes.slots) M 37 [some (.ref mo), some (.int (nI fr)), some (.int (sp_o to)), some (.int (hm_bI b)), some (.int (sp_is (fun k => if sp_goes sg to k = b then sp_cost sg (5 * fr + k) else 0) k)), some (.int (nI k)), y] [.int (hm_bI (sp_goes sg to k))] := by
          refine hr_istore X dX6_passes_37 (Nat.le_of_ble_eq_true rfl) ?_
          have J61 : hm_W C 0 0 (hm_T C (hm_pu (some (.int (sp_pass sg fr to b))) M) r_X6_passes.cells r_X6_passes.slots) M 61 [some (.ref mo), some (.int (nI fr)), some (.int (sp_o to)), some (.int (hm_bI b)), some (.int (sp_is (fun k => if sp_goes sg to k = b then sp_cost sg (5 * fr + k) else 0) k)), some (.int (nI k)), some (.int (hm_bI (sp_goes sg to k)))] [.int (if sp_goes sg to k = b then sp_cost sg (5 * fr + k) else 0), .int (sp_is (fun k => if sp_goes sg to k = b then sp_cost sg (5 * fr + k) else 0) k)] := by
            refine hr_iadd X dX6_passes_61 ?_
            refine hr_istore X dX6_passes_62 (Nat.le_of_ble_eq_true rfl) ?_
            refine hr_iinc (1) X dX6_passes_64 rfl (by decide) ?_
            refine hr_goto 6 X dX6_passes_67 (by decide) ?_
            rw [mm_a1]
            exact ih (k + 1) _ (by omega) (by omega)
          refine hr_iload X dX6_passes_39 rfl ?_
          refine hr_iload X dX6_passes_41 rfl ?_
          refine hr_iload_n X dX6_passes_43 rfl ?_
          refine hr_icmp_ne 60 X dX6_passes_44 (by decide) (fun c44 => ?_) (fun c44 => ?_)
          · rw [hm_bI_inj] at c44
            have hz : (if sp_goes sg to k = b then sp_cost sg (5 * fr + k) else 0) = 0 := if_neg c44
            refine hr_iconst (0) X dX6_passes_60 (by decide) ?_
            exact hr_eq (by rw [hz] <;> rfl) J61
          · rw [hm_bI_inj] at c44
            have hz : (if sp_goes sg to k = b then sp_cost sg (5 * fr + k) else 0) = sp_cost sg (5 * fr + k) := if_pos c44
            refine hr_aload_n X dX6_passes_47 rfl (Or.inr ⟨_, rfl⟩) ?_
            refine hr_iconst (5) X dX6_passes_48 (by decide) ?_
            refine hr_iload_n X dX6_passes_49 rfl ?_
            refine hr_imul X dX6_passes_50 ?_
            refine hr_iload X dX6_passes_51 rfl ?_
            refine hr_iadd X dX6_passes_53 ?_
            rw [show (5 * nI fr + nI k : Int32) = nI (5 * fr + k) by rw [mm_m5, nI_add]]
            refine hr_callV X kC6_111 dX6_passes_54 (c_X6_costOf cA hR (5 * fr + k) (by omega)) hR.1 rfl rfl rfl rfl (Nat.le_of_ble_eq_true rfl) ⟨⟨(Nat.le_of_ble_eq_true rfl), (Nat.le_of_ble_eq_true rfl)⟩, (Nat.le_of_ble_eq_true rfl), (Nat.le_of_ble_eq_true rfl)⟩ (fun v M54 hp => ?_)
            obtain ⟨rfl, rfl⟩ := hp
            refine hr_goto 61 X dX6_passes_57 (by decide) ?_
            exact hr_eq (by rw [hz] <;> rfl) J61
        refine hr_iload_n X dX6_passes_12 rfl ?_
        refine hr_iconst (-1) X dX6_passes_13 (by decide) ?_
        refine hr_icmp_eq 36 X dX6_passes_14 (by decide) (fun c14 => ?_) (fun c14 => ?_)
        · have hz : sp_goes sg to k = false := by rw [sp_o_none (fun u hu => by have := ht u hu; omega) c14]; rfl
          refine hr_iconst (0) X dX6_passes_36 (by decide) ?_
          exact hr_eq (by rw [hz] <;> rfl) J37
        · obtain ⟨t, rfl⟩ := sp_o_some c14
          have ht64 := ht t rfl
          refine hr_aload_n X dX6_passes_17 rfl (Or.inr ⟨_, rfl⟩) ?_
          refine mm_getA X kF6_23 dX6_passes_18 hR 6 rfl ?_
          refine hr_iconst (5) X dX6_passes_21 (by decide) ?_
          refine hr_iload_n X dX6_passes_22 rfl ?_
          refine hr_imul X dX6_passes_23 ?_
          refine hr_iload X dX6_passes_24 rfl ?_
          refine hr_iadd X dX6_passes_26 ?_
          refine mm_iald (5 * t + k) X dX6_passes_27 hR rfl (by show 5 * nI t + nI k = _; rw [mm_m5, nI_add]) (by simp only [mm_len, sp_e]; omega) ?_
          refine hr_iconst (4) X dX6_passes_28 (by decide) ?_
          refine hr_icmp_ne 36 X dX6_passes_29 (by decide) (fun c29 => ?_) (fun c29 => ?_)
          · have hz : sp_goes sg (some t) k = false := decide_eq_false c29
            refine hr_iconst (0) X dX6_passes_36 (by decide) ?_
            exact hr_eq (by rw [hz] <;> rfl) J37
          · have hz : sp_goes sg (some t) k = true := decide_eq_true c29
            refine hr_iconst (1) X dX6_passes_32 (by decide) ?_
            refine hr_goto 37 X dX6_passes_33 (by decide) ?_
            exact hr_eq (by rw [hz] <;> rfl) J37
  exact lp6 6 0 none (by decide) (by decide)
set_option maxHeartbeats 4000000 in
set_option maxRecDepth 100000 in
theorem c_X6_canFold (cA : Nat → ClassId) {sg ta : mm_S} {ad : Nat → Nat} {mo : Nat} {M0 M : hm_M} (hR : mm_R cA sg ta ad mo M0 M) (hI : sp_I sg) (s v : Nat) (hs : s < sp_n sg) (hvt : sp_th sg s v) : hm_Met cA yX6_canFold cX6_canFold 7 (some .boolean) r_X6_canFold [.ref mo, .int (nI s), .int (nI v)] M (hm_pu (some (.int (hm_bI (sp_cFold sg s v)))) M) := by
  refine hm_met 4 (by decide +kernel) (fun w h => by simp only [List.mem_cons, List.not_mem_nil, or_false] at h; rcases h with rfl | rfl | rfl <;> rfl) rfl (fun C X => ?_)
  show hm_W C 0 0 _ M 0 [some (.ref mo), some (.int (nI s)), some (.int (nI v)), none, none, none, none] []
  have hs4 : s < 4 := by have := hI.i1.2; omega
  have hv := hvt.1
  refine hr_aload_n X dX6_canFold_0 rfl (Or.inr ⟨_, rfl⟩) ?_
  refine hr_iload_n X dX6_canFold_1 rfl ?_
  refine hr_iload_n X dX6_canFold_2 rfl ?_
  refine hr_callV X kC6_155 dX6_canFold_3 (c_X6_isNeeded cA hR s v hs4 hv) hR.1 rfl rfl rfl rfl (Nat.le_of_ble_eq_true rfl) ⟨⟨(Nat.le_of_ble_eq_true rfl), (Nat.le_of_ble_eq_true rfl)⟩, (Nat.le_of_ble_eq_true rfl), (Nat.le_of_ble_eq_true rfl)⟩ (fun v M3 hp => ?_)
  obtain ⟨rfl, rfl⟩ := hp
  refine hr_if_eq 11 X dX6_canFold_6 (by decide) (fun c6 => ?_) (fun c6 => ?_)
  · rw [hm_bI_eq] at c6
    have hn2 : ¬ sp_ch sg s v 16 = -2 := fun q => by rw [sp_need, decide_eq_true q, Bool.or_true] at c6; exact absurd c6 (by decide)
    refine hr_aload_n X dX6_canFold_11 rfl (Or.inr ⟨_, rfl⟩) ?_
    refine hr_iload_n X dX6_canFold_12 rfl ?_
    refine hr_iload_n X dX6_canFold_13 rfl ?_
    refine hr_callV X kC6_152 dX6_canFold_14 (c_X6_child cA hR s v hs4 hv) hR.1 rfl rfl rfl rfl (Nat.le_of_ble_eq_true rfl) ⟨⟨(Nat.le_of_ble_eq_true rfl), (Nat.le_of_ble_eq_true rfl)⟩, (Nat.le_of_ble_eq_true rfl), (Nat.le_of_ble_eq_true rfl)⟩ (fun v M14 hp => ?_)
    obtain ⟨rfl, rfl⟩ := hp
    refine hr_istore_n X dX6_canFold_17 (Nat.le_of_ble_eq_true rfl) ?_
    refine hr_iload_n X dX6_canFold_18 rfl ?_
    refine hr_iconst (-1) X dX6_canFold_19 (by decide) ?_
    refine hr_icmp_ne 25 X dX6_canFold_20 (by decide) (fun c20 => ?_) (fun c20 => ?_)
    · obtain ⟨c, hc16, hce, hcc, hco⟩ := sp_ch_one c20 hn2
      obtain ⟨hct, g, hg, hog⟩ := sp_isCh_own hI hs hv hc16 hcc
      have eg : nN (sg 4 (16 * s + c)) = g := by rw [hog]; exact nI_clamp (by omega)
      have hz : sp_cFold sg s v = sp_fits sg g (sp_pass sg (16 * s + v) (some (16 * s + c)) true - sp_less sg s v c) := by
        rw [sp_cFold, c6, hco]
        show (true && sp_fits sg (nN (sg 4 (16 * s + c))) _) = _
        rw [eg, Bool.true_and]
      rw [hce]
      refine hr_bipush (16) X dX6_canFold_25 (by decide) ?_
      refine hr_iload_n X dX6_canFold_27 rfl ?_
      refine hr_imul X dX6_canFold_28 ?_
      refine hr_iload_n X dX6_canFold_29 rfl ?_
      refine hr_iadd X dX6_canFold_30 ?_
      rw [show (16 * nI s + nI v : Int32) = nI (16 * s + v) by rw [mm_m16, nI_add]]
      refine hr_istore X dX6_canFold_31 (Nat.le_of_ble_eq_true rfl) ?_
      refine hr_bipush (16) X dX6_canFold_33 (by decide) ?_
      refine hr_iload_n X dX6_canFold_35 rfl ?_
      refine hr_imul X dX6_canFold_36 ?_
      refine hr_iload_n X dX6_canFold_37 rfl ?_
      refine hr_iadd X dX6_canFold_38 ?_
      rw [show (16 * nI s + nI c : Int32) = nI (16 * s + c) by rw [mm_m16, nI_add]]
      refine hr_istore X dX6_canFold_39 (Nat.le_of_ble_eq_true rfl) ?_
      have J70 : hm_W C (0 + r_X6_isNeeded.cells + r_X6_child.cells) (0 + r_X6_isNeeded.slots + r_X6_child.slots) (hm_T C (hm_pu (some (.int (hm_bI (sp_cFold sg s v)))) M) r_X6_canFold.cells r_X6_canFold.slots) M 70 [some (.ref mo), some (.int (nI s)), some (.int (nI v)), some (.int (nI c)), some (.int (nI (16 * s + v))), some (.int (nI (16 * s + c))), none] [.int (sp_less sg s v c)] := by
        refine hr_istore X dX6_canFold_70 (Nat.le_of_ble_eq_true rfl) ?_
        refine hr_aload_n X dX6_canFold_72 rfl (Or.inr ⟨_, rfl⟩) ?_
        refine hr_aload_n X dX6_canFold_73 rfl (Or.inr ⟨_, rfl⟩) ?_
        refine mm_getA X kF6_17 dX6_canFold_74 hR 4 rfl ?_
        refine hr_iload X dX6_canFold_77 rfl ?_
        refine mm_iald (16 * s + c) X dX6_canFold_79 hR rfl rfl (by simp only [mm_len, sp_e]; omega) ?_
        rw [hog]
        refine hr_aload_n X dX6_canFold_80 rfl (Or.inr ⟨_, rfl⟩) ?_
        refine hr_iload X dX6_canFold_81 rfl ?_
        refine hr_iload X dX6_canFold_83 rfl ?_
        refine hr_iconst (1) X dX6_canFold_85 (by decide) ?_
        refine hr_callV X kC6_158 dX6_canFold_86 (c_X6_passes cA hR (16 * s + v) (some (16 * s + c)) true (by omega) (fun t q => by cases q; omega)) hR.1 rfl rfl rfl rfl (Nat.le_of_ble_eq_true rfl) ⟨⟨(Nat.le_of_ble_eq_true rfl), (Nat.le_of_ble_eq_true rfl)⟩, (Nat.le_of_ble_eq_true rfl), (Nat.le_of_ble_eq_true rfl)⟩ (fun v M86 hp => ?_)
        obtain ⟨rfl, rfl⟩ := hp
        refine hr_iload X dX6_canFold_89 rfl ?_
        refine hr_isub X dX6_canFold_91 ?_
        refine hr_callV X kC6_123 dX6_canFold_92 (c_X6_fits cA hR g hg (sp_pass sg (16 * s + v) (some (16 * s + c)) true - sp_less sg s v c)) hR.1 rfl rfl rfl rfl (Nat.le_of_ble_eq_true rfl) ⟨⟨(Nat.le_of_ble_eq_true rfl), (Nat.le_of_ble_eq_true rfl)⟩, (Nat.le_of_ble_eq_true rfl), (Nat.le_of_ble_eq_true rfl)⟩ (fun v M92 hp => ?_)
        obtain ⟨rfl, rfl⟩ := hp
        exact hr_zret X dX6_canFold_95 (hm_bIz _) (Nat.le_of_ble_eq_true rfl) (Nat.le_of_ble_eq_true rfl) ⟨by rw [hz], rfl⟩
      refine hr_aload_n X dX6_canFold_41 rfl (Or.inr ⟨_, rfl⟩) ?_
      refine mm_getA X kF6_17 dX6_canFold_42 hR 4 rfl ?_
      refine hr_iload X dX6_canFold_45 rfl ?_
      refine mm_iald (16 * s + v) X dX6_canFold_47 hR rfl rfl (by simp only [mm_len, sp_e]; omega) ?_
      refine hr_aload_n X dX6_canFold_48 rfl (Or.inr ⟨_, rfl⟩) ?_
      refine mm_getA X kF6_17 dX6_canFold_49 hR 4 rfl ?_
      refine hr_iload X dX6_canFold_52 rfl ?_
      refine mm_iald (16 * s + c) X dX6_canFold_54 hR rfl rfl (by simp only [mm_len, sp_e]; omega) ?_
      refine hr_icmp_ne 69 X dX6_canFold_55 (by decide) (fun c55 => ?_) (fun c55 => ?_)
      · have hz9 : sp_less sg s v c = 0 := if_neg c55
        refine hr_iconst (0) X dX6_canFold_69 (by decide) ?_
        exact hr_eq (by rw [hz9] <;> rfl) J70
      · have hz9 : sp_less sg s v c = sp_pass sg (16 * s + v) none false := if_pos c55
        refine hr_aload_n X dX6_canFold_58 rfl (Or.inr ⟨_, rfl⟩) ?_
        refine hr_iload X dX6_canFold_59 rfl ?_
        refine hr_iconst (-1) X dX6_canFold_61 (by decide) ?_
        refine hr_iconst (0) X dX6_canFold_62 (by decide) ?_
        refine hr_callV X kC6_158 dX6_canFold_63 (c_X6_passes cA hR (16 * s + v) none false (by omega) (fun t q => by cases q)) hR.1 rfl rfl rfl rfl (Nat.le_of_ble_eq_true rfl) ⟨⟨(Nat.le_of_ble_eq_true rfl), (Nat.le_of_ble_eq_true rfl)⟩, (Nat.le_of_ble_eq_true rfl), (Nat.le_of_ble_eq_true rfl)⟩ (fun v M63 hp => ?_)
        obtain ⟨rfl, rfl⟩ := hp
        refine hr_goto 70 X dX6_canFold_66 (by decide) ?_
        exact hr_eq (by rw [hz9] <;> rfl) J70
    · have hz : sp_cFold sg s v = true := by rw [sp_cFold, c6, sp_chO, if_pos c20]; rfl
      refine hr_iconst (1) X dX6_canFold_23 (by decide) ?_
      exact hr_zret X dX6_canFold_24 (by rfl) (Nat.le_of_ble_eq_true rfl) (Nat.le_of_ble_eq_true rfl) ⟨by rw [hz]; rfl, rfl⟩
  · rw [hm_bI_ne] at c6
    have hz : sp_cFold sg s v = false := by rw [sp_cFold, c6]; rfl
    refine hr_iconst (0) X dX6_canFold_9 (by decide) ?_
    exact hr_zret X dX6_canFold_10 (by rfl) (Nat.le_of_ble_eq_true rfl) (Nat.le_of_ble_eq_true rfl) ⟨by rw [hz]; rfl, rfl⟩
set_option maxHeartbeats 4000000 in
set_option maxRecDepth 100000 in
theorem c_X6_fold (cA : Nat → ClassId) {sg ta : mm_S} {ad : Nat → Nat} {mo : Nat} {M0 M : hm_M} (hR : mm_R cA sg ta ad mo M0 M) (hI : sp_I sg) (s v : Int32) : hm_Met cA yX6_fold cX6_fold 10 (some .int) r_X6_fold [.ref mo, .int s, .int v] M (mm_P cA ad mo M0 (sp_thFold sg s v) (sp_pass sg (16 * nN s + nN v) (sp_toO sg (nN s) (nN v)) false) (if sp_thFold sg s v = 0 then sp_foldS sg (nN s) (nN v) else sg)) := by
  refine hm_met 7 (by decide +kernel) (fun w h => by simp only [List.mem_cons, List.not_mem_nil, or_false] at h; rcases h with rfl | rfl | rfl <;> rfl) rfl (fun C X => ?_)
  show hm_W C 0 0 _ M 0 [some (.ref mo), some (.int s), some (.int v), none, none, none, none, none, none, none] []
  refine hr_aload_n X dX6_fold_0 rfl (Or.inr ⟨_, rfl⟩) ?_
  refine hr_iload_n X dX6_fold_1 rfl ?_
  refine hr_iload_n X dX6_fold_2 rfl ?_
  refine hr_callV X kC6_149 dX6_fold_3 (c_X6_isVersion cA hR hI s v) hR.1 rfl rfl rfl rfl (Nat.le_of_ble_eq_true rfl) ⟨⟨(Nat.le_of_ble_eq_true rfl), (Nat.le_of_ble_eq_true rfl)⟩, (Nat.le_of_ble_eq_true rfl), (Nat.le_of_ble_eq_true rfl)⟩ (fun v M3 hp => ?_)
  obtain ⟨rfl, rfl⟩ := hp
  refine hr_istore_n X dX6_fold_6 (Nat.le_of_ble_eq_true rfl) ?_
  have J30 : hm_W C (0 + r_X6_isVersion.cells) (0 + r_X6_isVersion.slots) (hm_T C (mm_P cA ad mo M0 (sp_thFold sg s v) (sp_pass sg (16 * nN s + nN v) (sp_toO sg (nN s) (nN v)) false) (if sp_thFold sg s v = 0 then sp_foldS sg (nN s) (nN v) else sg)) r_X6_fold.cells r_X6_fold.slots) M 30 [some (.ref mo), some (.int s), some (.int v), some (.int (hm_bI (sp_isV sg s v))), none, none, none, none, none, none] [.int (sp_thFold sg s v), .ref mo] := by
    refine hr_callV X kC6_120 dX6_fold_30 (c_X6_refused cA hR (sp_thFold sg s v)) hR.1 rfl rfl rfl rfl (Nat.le_of_ble_eq_true rfl) ⟨⟨(Nat.le_of_ble_eq_true rfl), (Nat.le_of_ble_eq_true rfl)⟩, (Nat.le_of_ble_eq_true rfl), (Nat.le_of_ble_eq_true rfl)⟩ (fun v M30 hp30 => ?_)
    obtain ⟨hR, rfl⟩ := hp30
    refine hr_if_eq 38 X dX6_fold_33 (by decide) (fun c33 => ?_) (fun c33 => ?_)
    · rw [hm_bz] at c33
      rw [if_pos c33]
      have hV : sp_isV sg s v = true := by
        cases h : sp_isV sg s v with
        | true => rfl
        | false => rw [sp_thFold, h, if_neg (by decide)] at c33; exact absurd c33 (by decide)
      obtain ⟨a, b, ha, ha4, rfl, rfl, hb⟩ := sp_isV_nat hI hV
      have e1 : nN (nI a) = a := nI_clamp (by omega)
      have hb16 := hb.1
      have e2 : nN (nI b) = b := nI_clamp (by omega)
      have hcf : sp_cFold sg a b = true := by
        cases h : sp_cFold sg a b with
        | true => rfl
        | false => rw [sp_thFold, if_pos hV, e1, e2, h, if_neg (by decide)] at c33; exact absurd c33 (by decide)
      have hnd : sp_need sg a b = false := by rw [sp_cFold, Bool.and_eq_true] at hcf; simpa using hcf.1
      have hn2 : ¬ sp_ch sg a b 16 = -2 := fun q => by rw [sp_need, decide_eq_true q, Bool.or_true] at hnd; exact absurd hnd (by decide)
      have hto : ∀ t, sp_toO sg a b = some t → t < 64 ∧ t ≠ 16 * a + b ∧ ∃ c, sp_ch sg a b 16 = nI c ∧ t = 16 * a + c ∧ c < 16 := fun t q => by
        by_cases h1 : sp_ch sg a b 16 = -1
        · rw [sp_toO, sp_chO, if_pos h1] at q; cases q
        · obtain ⟨c, hc16, hce, hcc, hco⟩ := sp_ch_one h1 hn2
          rw [sp_toO, hco] at q
          obtain rfl : 16 * a + c = t := Option.some.inj q
          refine ⟨by omega, fun q => ?_, c, hce, rfl, hc16⟩
          simp only [sp_isCh, Bool.and_eq_true, Bool.not_eq_true', decide_eq_false_iff_not, decide_eq_true_eq] at hcc
          exact hcc.2.1 (by rw [show c = b by omega])
      refine hr_bipush (16) X dX6_fold_38 (by decide) ?_
      refine hr_iload_n X dX6_fold_40 rfl ?_
      refine hr_imul X dX6_fold_41 ?_
      refine hr_iload_n X dX6_fold_42 rfl ?_
      refine hr_iadd X dX6_fold_43 ?_
      rw [show (16 * nI a + nI b : Int32) = nI (16 * a + b) by rw [mm_m16, nI_add]]
      refine hr_istore X dX6_fold_44 (Nat.le_of_ble_eq_true rfl) ?_
      refine hr_aload_n X dX6_fold_46 rfl (Or.inr ⟨_, rfl⟩) ?_
      refine hr_iload_n X dX6_fold_47 rfl ?_
      refine hr_iload_n X dX6_fold_48 rfl ?_
      refine hr_callV X kC6_152 dX6_fold_49 (c_X6_child cA hR a b ha4 hb16) hR.1 rfl rfl rfl rfl (Nat.le_of_ble_eq_true rfl) ⟨⟨(Nat.le_of_ble_eq_true rfl), (Nat.le_of_ble_eq_true rfl)⟩, (Nat.le_of_ble_eq_true rfl), (Nat.le_of_ble_eq_true rfl)⟩ (fun v M49 hp => ?_)
      obtain ⟨rfl, rfl⟩ := hp
      refine hr_istore X dX6_fold_52 (Nat.le_of_ble_eq_true rfl) ?_
      have J71 : hm_W C (0 + r_X6_isVersion.cells + r_X6_refused.cells + r_X6_child.cells) (0 + r_X6_isVersion.slots + r_X6_refused.slots + r_X6_child.slots) (hm_T C (mm_P cA ad mo M0 (sp_thFold sg (nI a) (nI b)) (sp_pass sg (16 * nN (nI a) + nN (nI b)) (sp_toO sg (nN (nI a)) (nN (nI b))) false) (sp_foldS sg (nN (nI a)) (nN (nI b)))) r_X6_fold.cells r_X6_fold.slots) M30 71 [some (.ref mo), some (.int (nI a)), some (.int (nI b)), some (.int (hm_bI (sp_isV sg (nI a) (nI b)))), some (.int (nI (16 * a + b))), some (.int (sp_ch sg a b 16)), none, none, none, none] [.int (sp_o (sp_toO sg a b))] := by
        refine hr_istore X dX6_fold_71 (Nat.le_of_ble_eq_true rfl) ?_
        refine hr_aload_n X dX6_fold_73 rfl (Or.inr ⟨_, rfl⟩) ?_
        refine hr_iload X dX6_fold_74 rfl ?_
        refine hr_iload X dX6_fold_76 rfl ?_
        refine hr_iconst (0) X dX6_fold_78 (by decide) ?_
        refine hr_callV X kC6_158 dX6_fold_79 (c_X6_passes cA hR (16 * a + b) (sp_toO sg a b) false (by omega) (fun t q => (hto t q).1)) hR.1 rfl rfl rfl rfl (Nat.le_of_ble_eq_true rfl) ⟨⟨(Nat.le_of_ble_eq_true rfl), (Nat.le_of_ble_eq_true rfl)⟩, (Nat.le_of_ble_eq_true rfl), (Nat.le_of_ble_eq_true rfl)⟩ (fun v M79 hp => ?_)
        obtain ⟨rfl, rfl⟩ := hp
        refine hr_istore X dX6_fold_82 (Nat.le_of_ble_eq_true rfl) ?_
        refine hr_iconst (0) X dX6_fold_84 (by decide) ?_
        refine hr_istore X dX6_fold_85 (Nat.le_of_ble_eq_true rfl) ?_
        have lp87 : ∀ (f : Nat) (k : Nat) (y : Option Value) (M : hm_M), mm_R cA (sp_fdS sg (16 * a + b) (sp_toO sg a b) k) (mm_up ta 0 0 (sp_thFold sg (nI a) (nI b))) ad mo M0 M → k ≤ 5 → 5 < k + f → hm_W C (0 + r_X6_isVersion.cells + r_X6_refused.cells + r_X6_child.cells + r_X6_passes.cells) (0 + r_X6_isVersion.slots + r_X6_refused.slots + r_X6_child.slots + r_X6_passes.slots) (hm_T C (mm_P cA ad mo M0 (sp_thFold sg (nI a) (nI b)) (sp_pass sg (16 * nN (nI a) + nN (nI b)) (sp_toO sg (nN (nI a)) (nN (nI b))) false) (sp_foldS sg (nN (nI a)) (nN (nI b)))) r_X6_fold.cells r_X6_fold.slots) M 87 [some (.ref mo), some (.int (nI a)), some (.int (nI b)), some (.int (hm_bI (sp_isV sg (nI a) (nI b)))), some (.int (nI (16 * a + b))), some (.int (sp_ch sg a b 16)), some (.int (sp_o (sp_toO sg a b))), some (.int (sp_pass sg (16 * a + b) (sp_toO sg a b) false)), some (.int (nI k)), y] [] := by
          intro f
          induction f with
          | zero => intro k y M hR h1 h2; exact absurd h2 (by omega)
          | succ f ih =>
            intro k y M hR h1 h2
            refine hr_iload X dX6_fold_87 rfl ?_
            refine hr_iconst (5) X dX6_fold_89 (by decide) ?_
            refine hr_icmp_ge 214 X dX6_fold_90 (by decide) (fun c90 => ?_) (fun c90 => ?_)
            · have hz : k = 5 := by have := (nI_leI (a := 5) (by decide) (by omega)).mp c90; omega
              subst hz
              have J234 : ∀ (M : hm_M), mm_R cA (sp_par (sp_fdS sg (16 * a + b) (sp_toO sg a b) 5) (16 * a + b) (sp_toO sg a b)) (mm_up ta 0 0 (sp_thFold sg (nI a) (nI b))) ad mo M0 M → hm_W C (0 + r_X6_isVersion.cells + r_X6_refused.cells + r_X6_child.cells + r_X6_passes.cells) (0 + r_X6_isVersion.slots + r_X6_refused.slots + r_X6_child.slots + r_X6_passes.slots) (hm_T C (mm_P cA ad mo M0 (sp_thFold sg (nI a) (nI b)) (sp_pass sg (16 * nN (nI a) + nN (nI b)) (sp_toO sg (nN (nI a)) (nN (nI b))) false) (sp_foldS sg (nN (nI a)) (nN (nI b)))) r_X6_fold.cells r_X6_fold.slots) M 234 [some (.ref mo), some (.int (nI a)), some (.int (nI b)), some (.int (hm_bI (sp_isV sg (nI a) (nI b)))), some (.int (nI (16 * a + b))), some (.int (sp_ch sg a b 16)), some (.int (sp_o (sp_toO sg a b))), some (.int (sp_pass sg (16 * a + b) (sp_toO sg a b) false)), some (.int (nI 5)), y] [] := by
                intro M hR
                refine hr_aload_n X dX6_fold_234 rfl (Or.inr ⟨_, rfl⟩) ?_
                refine mm_getA X kF6_7 dX6_fold_235 hR 2 rfl ?_
                refine hr_iload X dX6_fold_238 rfl ?_
                refine hr_iconst (0) X dX6_fold_240 (by decide) ?_
                refine mm_zast (16 * a + b) X dX6_fold_241 hR rfl rfl (by simp only [mm_len, sp_e]; omega) rfl (fun M241 hR => ?_)
                refine hr_iload X dX6_fold_242 rfl ?_
                exact hr_iret X dX6_fold_244 (Nat.le_of_ble_eq_true rfl) (Nat.le_of_ble_eq_true rfl) ⟨_, _, by rw [e1, e2]; exact hR, rfl, mm_up_s, fun _ => by rw [e1, e2]⟩
              refine hr_iload X dX6_fold_214 rfl ?_
              refine hr_iconst (-1) X dX6_fold_216 (by decide) ?_
              refine hr_icmp_eq 234 X dX6_fold_217 (by decide) (fun c217 => ?_) (fun c217 => ?_)
              · have hq : sp_toO sg a b = none := sp_o_none (fun u hu => by have := (hto u hu).1; omega) c217
                have hRp : mm_R cA (sp_par (sp_fdS sg (16 * a + b) (sp_toO sg a b) 5) (16 * a + b) (sp_toO sg a b)) (mm_up ta 0 0 (sp_thFold sg (nI a) (nI b))) ad mo M0 M := by rw [hq] at hR ⊢; exact hR
                exact J234 _ hRp
              · obtain ⟨t, hq⟩ := sp_o_some c217
                obtain ⟨ht64, htne, -⟩ := hto t hq
                have hTo : sp_o (sp_toO sg a b) = nI t := by rw [hq]; rfl
                refine hr_aload_n X dX6_fold_220 rfl (Or.inr ⟨_, rfl⟩) ?_
                refine mm_getA X kF6_13 dX6_fold_221 hR 3 rfl ?_
                refine hr_iload X dX6_fold_224 rfl ?_
                refine hr_aload_n X dX6_fold_226 rfl (Or.inr ⟨_, rfl⟩) ?_
                refine mm_getA X kF6_13 dX6_fold_227 hR 3 rfl ?_
                refine hr_iload X dX6_fold_230 rfl ?_
                refine mm_iald (16 * a + b) X dX6_fold_232 hR rfl rfl (by simp only [mm_len, sp_e]; omega) ?_
                refine mm_iast (t) X dX6_fold_233 hR rfl hTo (by simp only [mm_len, sp_e]; omega) (fun M233 hR => ?_)
                have hRp : mm_R cA (sp_par (sp_fdS sg (16 * a + b) (sp_toO sg a b) 5) (16 * a + b) (sp_toO sg a b)) (mm_up ta 0 0 (sp_thFold sg (nI a) (nI b))) ad mo M0 M233 := by rw [hq] at hR ⊢; exact hR
                exact J234 _ hRp
            · have hn : k < 5 := by
                rcases Nat.lt_or_ge k 5 with q | q
                · exact q
                · exact absurd (nI_le (by omega) (by omega)) c90
              have K : ∀ (M : hm_M), mm_R cA (sp_cpO (sp_fdS sg (16 * a + b) (sp_toO sg a b) k) (16 * a + b) (sp_toO sg a b) k) (mm_up ta 0 0 (sp_thFold sg (nI a) (nI b))) ad mo M0 M → hm_W C (0 + r_X6_isVersion.cells + r_X6_refused.cells + r_X6_child.cells + r_X6_passes.cells) (0 + r_X6_isVersion.slots + r_X6_refused.slots + r_X6_child.slots + r_X6_passes.slots) (hm_T C (mm_P cA ad mo M0 (sp_thFold sg (nI a) (nI b)) (sp_pass sg (16 * nN (nI a) + nN (nI b)) (sp_toO sg (nN (nI a)) (nN (nI b))) false) (sp_foldS sg (nN (nI a)) (nN (nI b)))) r_X6_fold.cells r_X6_fold.slots) M 200 [some (.ref mo), some (.int (nI a)), some (.int (nI b)), some (.int (hm_bI (sp_isV sg (nI a) (nI b)))), some (.int (nI (16 * a + b))), some (.int (sp_ch sg a b 16)), some (.int (sp_o (sp_toO sg a b))), some (.int (sp_pass sg (16 * a + b) (sp_toO sg a b) false)), some (.int (nI k)), some (.int (nI (5 * (16 * a + b) + k)))] [] := by
                intro M hR
                refine hr_aload_n X dX6_fold_200 rfl (Or.inr ⟨_, rfl⟩) ?_
                refine mm_getA X kF6_23 dX6_fold_201 hR 6 rfl ?_
                refine hr_iload X dX6_fold_204 rfl ?_
                refine hr_iconst (4) X dX6_fold_206 (by decide) ?_
                refine mm_iast (5 * (16 * a + b) + k) X dX6_fold_207 hR rfl rfl (by simp only [mm_len]; omega) (fun M9 hR => ?_)
                refine hr_iinc (1) X dX6_fold_208 rfl (by decide) ?_
                refine hr_goto 87 X dX6_fold_211 (by decide) ?_
                rw [mm_a1]
                exact ih (k + 1) _ _ hR (by omega) (by omega)
              refine hr_iconst (5) X dX6_fold_93 (by decide) ?_
              refine hr_iload X dX6_fold_94 rfl ?_
              refine hr_imul X dX6_fold_96 ?_
              refine hr_iload X dX6_fold_97 rfl ?_
              refine hr_iadd X dX6_fold_99 ?_
              rw [show (5 * nI (16 * a + b) + nI k : Int32) = nI (5 * (16 * a + b) + k) by rw [mm_m5, nI_add]]
              refine hr_istore X dX6_fold_100 (Nat.le_of_ble_eq_true rfl) ?_
              refine hr_iload X dX6_fold_102 rfl ?_
              refine hr_iconst (-1) X dX6_fold_104 (by decide) ?_
              refine hr_icmp_eq 200 X dX6_fold_105 (by decide) (fun c105 => ?_) (fun c105 => ?_)
              · have hq : sp_toO sg a b = none := sp_o_none (fun u hu => by have := (hto u hu).1; omega) c105
                exact K _ (by rw [hq] at hR ⊢; exact hR)
              · obtain ⟨t, hq⟩ := sp_o_some c105
                obtain ⟨ht64, htne, -⟩ := hto t hq
                have hTo : sp_o (sp_toO sg a b) = nI t := by rw [hq]; rfl
                refine hr_aload_n X dX6_fold_108 rfl (Or.inr ⟨_, rfl⟩) ?_
                refine mm_getA X kF6_23 dX6_fold_109 hR 6 rfl ?_
                refine hr_iconst (5) X dX6_fold_112 (by decide) ?_
                refine hr_iload X dX6_fold_113 rfl ?_
                refine hr_imul X dX6_fold_115 ?_
                refine hr_iload X dX6_fold_116 rfl ?_
                refine hr_iadd X dX6_fold_118 ?_
                refine mm_iald (5 * t + k) X dX6_fold_119 hR rfl (by rw [hTo, mm_m5, nI_add]) (by simp only [mm_len, sp_e]; omega) ?_
                refine hr_iconst (4) X dX6_fold_120 (by decide) ?_
                refine hr_icmp_ne 200 X dX6_fold_121 (by decide) (fun c121 => ?_) (fun c121 => ?_)
                · exact K _ (by rw [hq] at hR c121 ⊢; show mm_R cA (if _ then _ else _) _ _ _ _ _; rw [if_neg c121]; exact hR)
                · refine hr_aload_n X dX6_fold_124 rfl (Or.inr ⟨_, rfl⟩) ?_
                  refine mm_getA X kF6_23 dX6_fold_125 hR 6 rfl ?_
                  refine hr_iconst (5) X dX6_fold_128 (by decide) ?_
                  refine hr_iload X dX6_fold_129 rfl ?_
                  refine hr_imul X dX6_fold_131 ?_
                  refine hr_iload X dX6_fold_132 rfl ?_
                  refine hr_iadd X dX6_fold_134 ?_
                  refine hr_aload_n X dX6_fold_135 rfl (Or.inr ⟨_, rfl⟩) ?_
                  refine mm_getA X kF6_23 dX6_fold_136 hR 6 rfl ?_
                  refine hr_iload X dX6_fold_139 rfl ?_
                  refine mm_iald (5 * (16 * a + b) + k) X dX6_fold_141 hR rfl rfl (by simp only [mm_len, sp_e]; omega) ?_
                  refine mm_iast (5 * t + k) X dX6_fold_142 hR rfl (by rw [hTo, mm_m5, nI_add]) (by simp only [mm_len, sp_e]; omega) (fun M142 hR => ?_)
                  refine hr_aload_n X dX6_fold_143 rfl (Or.inr ⟨_, rfl⟩) ?_
                  refine mm_getA X kF6_26 dX6_fold_144 hR 7 rfl ?_
                  refine hr_iconst (5) X dX6_fold_147 (by decide) ?_
                  refine hr_iload X dX6_fold_148 rfl ?_
                  refine hr_imul X dX6_fold_150 ?_
                  refine hr_iload X dX6_fold_151 rfl ?_
                  refine hr_iadd X dX6_fold_153 ?_
                  refine hr_aload_n X dX6_fold_154 rfl (Or.inr ⟨_, rfl⟩) ?_
                  refine mm_getA X kF6_26 dX6_fold_155 hR 7 rfl ?_
                  refine hr_iload X dX6_fold_158 rfl ?_
                  refine mm_iald (5 * (16 * a + b) + k) X dX6_fold_160 hR rfl rfl (by simp only [mm_len, sp_e]; omega) ?_
                  refine mm_iast (5 * t + k) X dX6_fold_161 hR rfl (by rw [hTo, mm_m5, nI_add]) (by simp only [mm_len, sp_e]; omega) (fun M161 hR => ?_)
                  refine hr_aload_n X dX6_fold_162 rfl (Or.inr ⟨_, rfl⟩) ?_
                  refine mm_getA X kF6_29 dX6_fold_163 hR 8 rfl ?_
                  refine hr_iconst (5) X dX6_fold_166 (by decide) ?_
                  refine hr_iload X dX6_fold_167 rfl ?_
                  refine hr_imul X dX6_fold_169 ?_
                  refine hr_iload X dX6_fold_170 rfl ?_
                  refine hr_iadd X dX6_fold_172 ?_
                  refine hr_aload_n X dX6_fold_173 rfl (Or.inr ⟨_, rfl⟩) ?_
                  refine mm_getA X kF6_29 dX6_fold_174 hR 8 rfl ?_
                  refine hr_iload X dX6_fold_177 rfl ?_
                  refine mm_iald (5 * (16 * a + b) + k) X dX6_fold_179 hR rfl rfl (by simp only [mm_len, sp_e]; omega) ?_
                  refine mm_iast (5 * t + k) X dX6_fold_180 hR rfl (by rw [hTo, mm_m5, nI_add]) (by simp only [mm_len, sp_e]; omega) (fun M180 hR => ?_)
                  refine hr_aload_n X dX6_fold_181 rfl (Or.inr ⟨_, rfl⟩) ?_
                  refine mm_getA X kF6_32 dX6_fold_182 hR 9 rfl ?_
                  refine hr_iconst (5) X dX6_fold_185 (by decide) ?_
                  refine hr_iload X dX6_fold_186 rfl ?_
                  refine hr_imul X dX6_fold_188 ?_
                  refine hr_iload X dX6_fold_189 rfl ?_
                  refine hr_iadd X dX6_fold_191 ?_
                  refine hr_aload_n X dX6_fold_192 rfl (Or.inr ⟨_, rfl⟩) ?_
                  refine mm_getA X kF6_32 dX6_fold_193 hR 9 rfl ?_
                  refine hr_iload X dX6_fold_196 rfl ?_
                  refine mm_iald (5 * (16 * a + b) + k) X dX6_fold_198 hR rfl rfl (by simp only [mm_len, sp_e]; omega) ?_
                  refine mm_iast (5 * t + k) X dX6_fold_199 hR rfl (by rw [hTo, mm_m5, nI_add]) (by simp only [mm_len, sp_e]; omega) (fun M199 hR => ?_)
                  exact K _ (by rw [hq] at hR c121 ⊢; show mm_R cA (if _ then _ else _) _ _ _ _ _; rw [if_pos c121]; exact hR)
        exact lp87 6 0 none _ hR (by decide) (by decide)
      refine hr_iload X dX6_fold_54 rfl ?_
      refine hr_iconst (-1) X dX6_fold_56 (by decide) ?_
      refine hr_icmp_ne 64 X dX6_fold_57 (by decide) (fun c57 => ?_) (fun c57 => ?_)
      · obtain ⟨c, hc16, hce, hcc, hco⟩ := sp_ch_one c57 hn2
        have hz : sp_o (sp_toO sg a b) = 16 * nI a + sp_ch sg a b 16 := by rw [sp_toO, hco, hce, mm_m16, nI_add]; rfl
        refine hr_bipush (16) X dX6_fold_64 (by decide) ?_
        refine hr_iload_n X dX6_fold_66 rfl ?_
        refine hr_imul X dX6_fold_67 ?_
        refine hr_iload X dX6_fold_68 rfl ?_
        refine hr_iadd X dX6_fold_70 ?_
        exact hr_eq (by rw [hz] <;> rfl) J71
      · have hz : sp_o (sp_toO sg a b) = -1 := by rw [sp_toO, sp_chO, if_pos c57]; rfl
        refine hr_iconst (-1) X dX6_fold_60 (by decide) ?_
        refine hr_goto 71 X dX6_fold_61 (by decide) ?_
        exact hr_eq (by rw [hz] <;> rfl) J71
    · rw [hm_bz] at c33
      rw [if_neg c33]
      refine hr_iconst (0) X dX6_fold_36 (by decide) ?_
      exact hr_iret X dX6_fold_37 (Nat.le_of_ble_eq_true rfl) (Nat.le_of_ble_eq_true rfl) ⟨_, _, hR, rfl, mm_up_s, fun q => absurd q c33⟩
  refine hr_aload_n X dX6_fold_7 rfl (Or.inr ⟨_, rfl⟩) ?_
  refine hr_iload_n X dX6_fold_8 rfl ?_
  refine hr_if_ne 16 X dX6_fold_9 (by decide) (fun c9 => ?_) (fun c9 => ?_)
  · rw [hm_bI_ne] at c9
    obtain ⟨a, b, ha, ha4, rfl, rfl, hb⟩ := sp_isV_nat hI c9
    have e1 : nN (nI a) = a := nI_clamp (by omega)
    have hb16 := hb.1
    have e2 : nN (nI b) = b := nI_clamp (by omega)
    refine hr_aload_n X dX6_fold_16 rfl (Or.inr ⟨_, rfl⟩) ?_
    refine hr_iload_n X dX6_fold_17 rfl ?_
    refine hr_iload_n X dX6_fold_18 rfl ?_
    refine hr_callV X kC6_162 dX6_fold_19 (c_X6_canFold cA hR hI a b ha hb) hR.1 rfl rfl rfl rfl (Nat.le_of_ble_eq_true rfl) ⟨⟨(Nat.le_of_ble_eq_true rfl), (Nat.le_of_ble_eq_true rfl)⟩, (Nat.le_of_ble_eq_true rfl), (Nat.le_of_ble_eq_true rfl)⟩ (fun v M19 hp => ?_)
    obtain ⟨rfl, rfl⟩ := hp
    refine hr_if_eq 29 X dX6_fold_22 (by decide) (fun c22 => ?_) (fun c22 => ?_)
    · rw [hm_bI_eq] at c22
      have hz : sp_thFold sg (nI a) (nI b) = 2 := by rw [sp_thFold, if_pos c9, e1, e2, c22]; rfl
      refine hr_iconst (2) X dX6_fold_29 (by decide) ?_
      exact hr_eq (by rw [hz] <;> rfl) J30
    · rw [hm_bI_ne] at c22
      have hz : sp_thFold sg (nI a) (nI b) = 0 := by rw [sp_thFold, if_pos c9, e1, e2, if_pos c22]
      refine hr_iconst (0) X dX6_fold_25 (by decide) ?_
      refine hr_goto 30 X dX6_fold_26 (by decide) ?_
      exact hr_eq (by rw [hz] <;> rfl) J30
  · rw [hm_bI_eq] at c9
    have hz : sp_thFold sg s v = 1 := by simp [sp_thFold, c9]
    refine hr_iconst (1) X dX6_fold_12 (by decide) ?_
    refine hr_goto 30 X dX6_fold_13 (by decide) ?_
    exact hr_eq (by rw [hz] <;> rfl) J30
