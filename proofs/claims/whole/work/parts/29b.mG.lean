set_option maxHeartbeats 4000000 in
set_option maxRecDepth 100000 in
theorem c_X6_isInRule (cA : Nat → ClassId) {M : hm_M} (rule pr : Int32) : hm_Met cA yX6_isInRule cX6_isInRule 4 (some .boolean) r_X6_isInRule [.int rule, .int pr] M (hm_pu (some (.int (hm_bI (sp_inR rule pr)))) M) := by
  refine hm_met 2 (by decide +kernel) (fun w h => by simp only [List.mem_cons, List.not_mem_nil, or_false] at h; rcases h with rfl | rfl <;> rfl) rfl (fun C X => ?_)
  show hm_W C 0 0 _ M 0 [some (.int rule), some (.int pr), none, none] []
  have hl6 := sp_len_le rule
  refine hr_iconst (0) X dX6_isInRule_0 (by decide) ?_
  refine hr_istore_n X dX6_isInRule_1 (Nat.le_of_ble_eq_true rfl) ?_
  refine hr_iconst (0) X dX6_isInRule_2 (by decide) ?_
  refine hr_istore_n X dX6_isInRule_3 (Nat.le_of_ble_eq_true rfl) ?_
  have lp4 : ∀ (f : Nat) (n : Nat), n ≤ sp_len rule - 2 → sp_len rule - 2 < n + f → hm_W C 0 0 (hm_T C (hm_pu (some (.int (hm_bI (sp_inR rule pr)))) M) r_X6_isInRule.cells r_X6_isInRule.slots) M 4 [some (.int rule), some (.int pr), some (.int (hm_bI (sp_irF rule pr n))), some (.int (nI n))] [] := by
    intro f
    induction f with
    | zero => intro n h1 h2; exact absurd h2 (by omega)
    | succ f ih =>
      intro n h1 h2
      refine hr_iload_n X dX6_isInRule_4 rfl ?_
      refine hr_iconst (2) X dX6_isInRule_5 (by decide) ?_
      refine hr_iadd X dX6_isInRule_6 ?_
      refine hr_iload_n X dX6_isInRule_7 rfl ?_
      refine hr_callS X kC6_103 dX6_isInRule_8 (c_X6_lengthOf cA (M := _) rule) rfl rfl rfl (Nat.le_of_ble_eq_true rfl) ⟨⟨(Nat.le_of_ble_eq_true rfl), (Nat.le_of_ble_eq_true rfl)⟩, (Nat.le_of_ble_eq_true rfl), (Nat.le_of_ble_eq_true rfl)⟩ (fun v M8 hp => ?_)
      obtain ⟨rfl, rfl⟩ := hp
      refine hr_icmp_ge 56 X dX6_isInRule_11 (by decide) (fun c11 => ?_) (fun c11 => ?_)
      · rw [mm_a2] at c11
        have hz : n = sp_len rule - 2 := by have := (nI_leI (by omega) (by omega)).mp c11; omega
        subst hz
        refine hr_iload_n X dX6_isInRule_56 rfl ?_
        exact hr_zret X dX6_isInRule_57 (hm_bIz _) (Nat.le_of_ble_eq_true rfl) (Nat.le_of_ble_eq_true rfl) ⟨rfl, rfl⟩
      · rw [mm_a2] at c11
        have hn : n + 2 < sp_len rule := by
          rcases Nat.lt_or_ge (n + 2) (sp_len rule) with q | q
          · exact q
          · exact absurd (nI_le q (by omega)) c11
        have J49 : hm_W C 0 0 (hm_T C (hm_pu (some (.int (hm_bI (sp_inR rule pr)))) M) r_X6_isInRule.cells r_X6_isInRule.slots) M 49 [some (.int rule), some (.int pr), some (.int (hm_bI (sp_irF rule pr n))), some (.int (nI n))] [.int (hm_bI (sp_irF rule pr (n + 1)))] := by
          refine hr_istore_n X dX6_isInRule_49 (Nat.le_of_ble_eq_true rfl) ?_
          refine hr_iinc (1) X dX6_isInRule_50 rfl (by decide) ?_
          refine hr_goto 4 X dX6_isInRule_53 (by decide) ?_
          rw [mm_a1]
          exact ih (n + 1) (by omega) (by omega)
        refine hr_iload_n X dX6_isInRule_14 rfl ?_
        refine hr_if_ne 44 X dX6_isInRule_15 (by decide) (fun c15 => ?_) (fun c15 => ?_)
        · rw [hm_bI_ne] at c15
          have hz : sp_irF rule pr (n + 1) = true := by rw [sp_irF, c15]; rfl
          refine hr_iconst (1) X dX6_isInRule_44 (by decide) ?_
          refine hr_goto 49 X dX6_isInRule_45 (by decide) ?_
          exact hr_eq (by rw [hz] <;> rfl) J49
        · rw [hm_bI_eq] at c15
          refine hr_iload_n X dX6_isInRule_18 rfl ?_
          refine hr_iload_n X dX6_isInRule_19 rfl ?_
          refine hr_callS X kC6_98 dX6_isInRule_20 (c_X6_wordAt cA (M := _) rule (nI n)) rfl rfl rfl (Nat.le_of_ble_eq_true rfl) ⟨⟨(Nat.le_of_ble_eq_true rfl), (Nat.le_of_ble_eq_true rfl)⟩, (Nat.le_of_ble_eq_true rfl), (Nat.le_of_ble_eq_true rfl)⟩ (fun v M20 hp => ?_)
          obtain ⟨rfl, rfl⟩ := hp
          refine hr_iload_n X dX6_isInRule_23 rfl ?_
          refine hr_iload_n X dX6_isInRule_24 rfl ?_
          refine hr_iconst (1) X dX6_isInRule_25 (by decide) ?_
          refine hr_iadd X dX6_isInRule_26 ?_
          refine hr_callS X kC6_98 dX6_isInRule_27 (c_X6_wordAt cA (M := _) rule (nI n + 1)) rfl rfl rfl (Nat.le_of_ble_eq_true rfl) ⟨⟨(Nat.le_of_ble_eq_true rfl), (Nat.le_of_ble_eq_true rfl)⟩, (Nat.le_of_ble_eq_true rfl), (Nat.le_of_ble_eq_true rfl)⟩ (fun v M27 hp => ?_)
          obtain ⟨rfl, rfl⟩ := hp
          refine hr_iload_n X dX6_isInRule_30 rfl ?_
          refine hr_iload_n X dX6_isInRule_31 rfl ?_
          refine hr_iconst (2) X dX6_isInRule_32 (by decide) ?_
          refine hr_iadd X dX6_isInRule_33 ?_
          refine hr_callS X kC6_98 dX6_isInRule_34 (c_X6_wordAt cA (M := _) rule (nI n + 2)) rfl rfl rfl (Nat.le_of_ble_eq_true rfl) ⟨⟨(Nat.le_of_ble_eq_true rfl), (Nat.le_of_ble_eq_true rfl)⟩, (Nat.le_of_ble_eq_true rfl), (Nat.le_of_ble_eq_true rfl)⟩ (fun v M34 hp => ?_)
          obtain ⟨rfl, rfl⟩ := hp
          refine hr_callS X kC6_212 dX6_isInRule_37 (c_X6_print cA (M := _) (sp_wa rule (nI n)) (sp_wa rule (nI n + 1)) (sp_wa rule (nI n + 2))) rfl rfl rfl (Nat.le_of_ble_eq_true rfl) ⟨⟨(Nat.le_of_ble_eq_true rfl), (Nat.le_of_ble_eq_true rfl)⟩, (Nat.le_of_ble_eq_true rfl), (Nat.le_of_ble_eq_true rfl)⟩ (fun v M37 hp => ?_)
          obtain ⟨rfl, rfl⟩ := hp
          refine hr_iload_n X dX6_isInRule_40 rfl ?_
          refine hr_icmp_ne 48 X dX6_isInRule_41 (by decide) (fun c41 => ?_) (fun c41 => ?_)
          · rw [mm_a1, mm_a2] at c41
            have hz : sp_irF rule pr (n + 1) = false := by rw [sp_irF, c15, Bool.false_or]; exact decide_eq_false c41
            refine hr_iconst (0) X dX6_isInRule_48 (by decide) ?_
            exact hr_eq (by rw [hz] <;> rfl) J49
          · rw [mm_a1, mm_a2] at c41
            have hz : sp_irF rule pr (n + 1) = true := by rw [sp_irF, c15, Bool.false_or]; exact decide_eq_true c41
            refine hr_iconst (1) X dX6_isInRule_44 (by decide) ?_
            refine hr_goto 49 X dX6_isInRule_45 (by decide) ?_
            exact hr_eq (by rw [hz] <;> rfl) J49
  exact lp4 (sp_len rule - 2 + 1) 0 (Nat.zero_le _) (by omega)
set_option maxHeartbeats 4000000 in
set_option maxRecDepth 100000 in
theorem c_X6_isPrint (cA : Nat → ClassId) {sg ta : mm_S} {ad : Nat → Nat} {mo : Nat} {M0 M : hm_M} (hR : mm_R cA sg ta ad mo M0 M) (x : Int32) (l : List Int32) (hl : mm_pl ta l) (hl50 : l.length ≤ 50) : hm_Met cA yX6_isPrint cX6_isPrint 4 (some .boolean) r_X6_isPrint [.ref mo, .int x] M (hm_pu (some (.int (hm_bI (decide (x ∈ l))))) M) := by
  refine hm_met 2 (by decide +kernel) (fun w h => by simp only [List.mem_cons, List.not_mem_nil, or_false] at h; rcases h with rfl | rfl <;> rfl) rfl (fun C X => ?_)
  show hm_W C 0 0 _ M 0 [some (.ref mo), some (.int x), none, none] []
  refine hr_iconst (0) X dX6_isPrint_0 (by decide) ?_
  refine hr_istore_n X dX6_isPrint_1 (Nat.le_of_ble_eq_true rfl) ?_
  refine hr_iconst (0) X dX6_isPrint_2 (by decide) ?_
  refine hr_istore_n X dX6_isPrint_3 (Nat.le_of_ble_eq_true rfl) ?_
  have lp4 : ∀ (f : Nat) (n : Nat), n ≤ l.length → l.length < n + f → hm_W C 0 0 (hm_T C (hm_pu (some (.int (hm_bI (decide (x ∈ l))))) M) r_X6_isPrint.cells r_X6_isPrint.slots) M 4 [some (.ref mo), some (.int x), some (.int (hm_bI (sp_el (ta 24) x n))), some (.int (nI n))] [] := by
    intro f
    induction f with
    | zero => intro n h1 h2; exact absurd h2 (by omega)
    | succ f ih =>
      intro n h1 h2
      refine hr_iload_n X dX6_isPrint_4 rfl ?_
      refine hr_aload_n X dX6_isPrint_5 rfl (Or.inr ⟨_, rfl⟩) ?_
      refine mm_getS X kF6_215 dX6_isPrint_6 hR 25 rfl ?_
      rw [hl.1]
      refine hr_icmp_ge 38 X dX6_isPrint_9 (by decide) (fun c9 => ?_) (fun c9 => ?_)
      · have hz : n = l.length := by have := (nI_leI (by omega) (by omega)).mp c9; omega
        subst hz
        refine hr_iload_n X dX6_isPrint_38 rfl ?_
        exact hr_zret X dX6_isPrint_39 (hm_bIz _) (Nat.le_of_ble_eq_true rfl) (Nat.le_of_ble_eq_true rfl) ⟨by rw [sp_el_mem hl.2], rfl⟩
      · have hn : n < l.length := by
          rcases Nat.lt_or_ge n l.length with q | q
          · exact q
          · exact absurd (nI_le (by omega) (by omega)) c9
        have J31 : hm_W C 0 0 (hm_T C (hm_pu (some (.int (hm_bI (decide (x ∈ l))))) M) r_X6_isPrint.cells r_X6_isPrint.slots) M 31 [some (.ref mo), some (.int x), some (.int (hm_bI (sp_el (ta 24) x n))), some (.int (nI n))] [.int (hm_bI (sp_el (ta 24) x (n + 1)))] := by
          refine hr_istore_n X dX6_isPrint_31 (Nat.le_of_ble_eq_true rfl) ?_
          refine hr_iinc (1) X dX6_isPrint_32 rfl (by decide) ?_
          refine hr_goto 4 X dX6_isPrint_35 (by decide) ?_
          rw [mm_a1]
          exact ih (n + 1) (by omega) (by omega)
        refine hr_iload_n X dX6_isPrint_12 rfl ?_
        refine hr_if_ne 26 X dX6_isPrint_13 (by decide) (fun c13 => ?_) (fun c13 => ?_)
        · rw [hm_bI_ne] at c13
          have hz : sp_el (ta 24) x (n + 1) = true := by rw [sp_el, c13]; rfl
          refine hr_iconst (1) X dX6_isPrint_26 (by decide) ?_
          refine hr_goto 31 X dX6_isPrint_27 (by decide) ?_
          exact hr_eq (by rw [hz] <;> rfl) J31
        · rw [hm_bI_eq] at c13
          refine hr_aload_n X dX6_isPrint_16 rfl (Or.inr ⟨_, rfl⟩) ?_
          refine mm_getA X kF6_77 dX6_isPrint_17 hR 24 rfl ?_
          refine hr_iload_n X dX6_isPrint_20 rfl ?_
          refine mm_ialdT (n) X dX6_isPrint_21 hR rfl rfl (by simp only [mm_len, sp_e]; omega) ?_
          refine hr_iload_n X dX6_isPrint_22 rfl ?_
          refine hr_icmp_ne 30 X dX6_isPrint_23 (by decide) (fun c23 => ?_) (fun c23 => ?_)
          · have hz : sp_el (ta 24) x (n + 1) = false := by rw [sp_el, c13, Bool.false_or]; exact decide_eq_false c23
            refine hr_iconst (0) X dX6_isPrint_30 (by decide) ?_
            exact hr_eq (by rw [hz] <;> rfl) J31
          · have hz : sp_el (ta 24) x (n + 1) = true := by rw [sp_el, c13, Bool.false_or]; exact decide_eq_true c23
            refine hr_iconst (1) X dX6_isPrint_26 (by decide) ?_
            refine hr_goto 31 X dX6_isPrint_27 (by decide) ?_
            exact hr_eq (by rw [hz] <;> rfl) J31
  exact lp4 (l.length + 1) 0 (Nat.zero_le _) (by omega)
