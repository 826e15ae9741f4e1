set_option maxHeartbeats 4000000 in
set_option maxRecDepth 100000 in
theorem c_X6_isInRule (cA : Nat → ClassId) {M : hm_M} (rule pr : Int32) : hm_Met cA yX6_isInRule cX6_isInRule 4 (some .boolean) r_X6_isInRule [.int rule, .int pr] M (hm_pu (some (.int (hm_bI (sp_inR rule pr)))) M) := by
  refine hm_met 2 (by decide +kernel) (fun w h => by simp only [List.mem_cons, List.not_mem_nil, or_false] at h; rcases h with rfl | rfl <;> rfl) rfl (fun C X => ?_)
  show hm_W C 0 0 _ M 0 [some (.int rule), some (.int pr), none, none] []
  have hl6 := sp_len_le rule
  refine hr_iconst (0) X dX6_isInRule_0 (by decide) ?_
  refine hr_istore_n X dX6_isInRule_1 (Nat.le_of_ble_eq_true rfl) ?_
  refine hr_iconst (0) X dX6_isInRule_2 (by decide) ?_
  refine hr_istore_n X dX6_isInRule_3 (Nat.le_of_ble_eq_true rfl) ?_
  have lp4 : ∀ (f : Nat) (n : Nat), n ≤ sp_len rule - 2 → sp_len rule - 2 < n + f → hm_W C 0 0 (hm_T C (hm_pu (some (.int (hm_bI (sp_inR rule pr)))) M) r_X6_isInRule.cells r_X6_isInRule.slots) M 4 [some (.int rule), some (.int pr), some (.int (hm_bI (sp_irF rule pr n))), some (.int (nI n))] [] := by
    intro f
    induction f with
    | zero => intro n h1 h2; exact absurd h2 (by omega)
    | succ f ih =>
      intro n h1 h2
      refine hr_iload_n X dX6_isInRule_4 rfl ?_
      refine hr_iconst (2) X dX6_isInRule_5 (by decide) ?_
      refine hr_iadd X dX6_isInRule_6 ?_
      refine hr_iload_n X dX6_isInRule_7 rfl ?_
      refine hr_callS X kC6_103 dX6_isInRule_8 (c_X6_lengthOf cA (M := _) rule) rfl rfl rfl (Nat.le_of_ble_eq_true rfl) ⟨⟨(Nat.le_of_ble_eq_true rfl), (Nat.le_of_ble_eq_true rfl)⟩, (Nat.le_of_ble_eq_true rfl), (Nat.le_of_ble_eq_true rfl)⟩ (fun v M8 hp => ?_)
      obtain ⟨rfl, rfl⟩ := hp
      refine hr_icmp_ge 56 X dX6_isInRule_11 (by decide) (fun c11 => ?_) (fun c11 => ?_)
      · rw [mm_a2] at c11
        have hz : n = sp_len rule - 2 := by have := (nI_leI (by omega) (by omega)).mp c11; omega
        subst hz
        refine hr_iload_n X dX6_isInRule_56 rfl ?_
        exact hr_zret X dX6_isInRule_57 (hm_bIz _) (Nat.le_of_ble_eq_true rfl) (Nat.le_of_ble_eq_true rfl) ⟨rfl, rfl⟩
      · rw [mm_a2] at c11
        have hn : n + 2 < sp_len rule := by
          rcases Nat.lt_or_ge (n + 2) (sp_len rule) with q | q
          · exact q
          · exact absurd (nI_le q (by omega)) c11
        have J49 : hm_W C 0 0 (hm_T C (hm_pu (some (.int (hm_bI (sp_inR rule pr)))) M) r_X6_isInRule.cells r_X6_isInRule.slots) M 49 [some (.int rule), some (.int pr), some (.int (hm_bI (sp_irF rule pr n))), some (.int (nI n))] [.int (hm_bI (sp_irF rule pr (n + 1)))] := by
          refine hr_istore_n X dX6_isInRule_49 (Nat.le_of_ble_eq_true rfl) ?_
          refine hr_iinc (1) X dX6_isInRule_50 rfl (by decide) ?_
          refine hr_goto 4 X dX6_isInRule_53 (by decide) ?_
          rw [mm_a1]
          exact ih (n + 1) (by omega) (by omega)
        refine hr_iload_n X dX6_isInRule_14 rfl ?_
        refine hr_if_ne 44 X dX6_isInRule_15 (by decide) (fun c15 => ?_) (fun c15 => ?_)
        · rw [hm_bI_ne] at c15
          have hz : sp_irF rule pr (n + 1) = true := by rw [sp_irF, c15]; rfl
          refine hr_iconst (1) X dX6_isInRule_44 (by decide) ?_
          refine hr_goto 49 X dX6_isInRule_45 (by decide) ?_
          exact hr_eq (by rw [hz] <;> rfl) J49
        · rw [hm_bI_eq] at c15
          refine hr_iload_n X dX6_isInRule_18 rfl ?_
          refine hr_iload_n X dX6_isInRule_19 rfl ?_
          refine hr_callS X kC6_98 dX6_isInRule_20 (c_X6_wordAt cA (M := _) rule (nI n)) rfl rfl rfl (Nat.le_of_ble_eq_true rfl) ⟨⟨(Nat.le_of_ble_eq_true rfl), (Nat.le_of_ble_eq_true rfl)⟩, (Nat.le_of_ble_eq_true rfl), (Nat.le_of_ble_eq_true rfl)⟩ (fun v M20 hp => ?_)
          obtain ⟨rfl, rfl⟩ := hp
          refine hr_iload_n X dX6_isInRule_23 rfl ?_
          refine hr_iload_n X dX6_isInRule_24 rfl ?_
          refine hr_iconst (1) X dX6_isInRule_25 (by decide) ?_
          refine hr_iadd X dX6_isInRule_26 ?_
          refine hr_callS X kC6_98 dX6_isInRule_27 (c_X6_wordAt cA (M := _) rule (nI n + 1)) rfl rfl rfl (Nat.le_of_ble_eq_true rfl) ⟨⟨(Nat.le_of_ble_eq_true rfl), (Nat.le_of_ble_eq_true rfl)⟩, (Nat.le_of_ble_eq_true rfl), (Nat.le_of_ble_eq_true rfl)⟩ (fun v M27 hp => ?_)
          obtain ⟨rfl, rfl⟩ := hp
          refine hr_iload_n X dX6_isInRule_30 rfl ?_
          refine hr_iload_n X dX6_isInRule_31 rfl ?_
          refine hr_iconst (2) X dX6_isInRule_32 (by decide) ?_
          refine hr_iadd X dX6_isInRule_33 ?_
          refine hr_callS X kC6_98 dX6_isInRule_34 (c_X6_wordAt cA (M := _) rule (nI n + 2)) rfl rfl rfl (Nat.le_of_ble_eq_true rfl) ⟨⟨(Nat.le_of_ble_eq_true rfl), (Nat.le_of_ble_eq_true rfl)⟩, (Nat.le_of_ble_eq_true rfl), (Nat.le_of_ble_eq_true rfl)⟩ (fun v M34 hp => ?_)
          obtain ⟨rfl, rfl⟩ := hp
          refine hr_callS X kC6_212 dX6_isInRule_37 (c_X6_print cA (M := _) (sp_wa rule (nI n)) (sp_wa rule (nI n + 1)) (sp_wa rule (nI n + 2))) rfl rfl rfl (Nat.le_of_ble_eq_true rfl) ⟨⟨(Nat.le_of_ble_eq_true rfl), (Nat.le_of_ble_eq_true rfl)⟩, (Nat.le_of_ble_eq_true rfl), (Nat.le_of_ble_eq_true rfl)⟩ (fun v M37 hp => ?_)
          obtain ⟨rfl, rfl⟩ := hp
          refine hr_iload_n X dX6_isInRule_40 rfl ?_
          refine hr_icmp_ne 48 X dX6_isInRule_41 (by decide) (fun c41 => ?_) (fun c41 => ?_)
          · rw [mm_a1, mm_a2] at c41
            have hz : sp_irF rule pr (n + 1) = false := by rw [sp_irF, c15, Bool.false_or]; exact decide_eq_false c41
            refine hr_iconst (0) X dX6_isInRule_48 (by decide) ?_
            exact hr_eq (by rw [hz] <;> rfl) J49
          · rw [mm_a1, mm_a2] at c41
            have hz : sp_irF rule pr (n + 1) = true := by rw [sp_irF, c15, Bool.false_or]; exact decide_eq_true c41
            refine hr_iconst (1) X dX6_isInRule_44 (by decide) ?_
            refine hr_goto 49 X dX6_isInRule_45 (by decide) ?_
            exact hr_eq (by rw [hz] <;> rfl) J49
  exact lp4 (sp_len rule - 2 + 1) 0 (Nat.zero_le _) (by omega)
set_option maxHeartbeats 4000000 in
set_option maxRecDepth 100000 in
theorem c_X6_isPrint (cA : Nat → ClassId) {sg ta : mm_S} {ad : Nat → Nat} {mo : Nat} {M0 M : hm_M} (hR : mm_R cA sg ta ad mo M0 M) (x : Int32) (l : List Int32) (hl : mm_pl ta l) (hl50 : l.length ≤ 50) : hm_Met cA yX6_isPrint cX6_isPrint 4 (some .boolean) r_X6_isPrint [.ref mo, .int x] M (hm_pu (some (.int (hm_bI (decide (x ∈ l))))) M) := by
  refine hm_met 2 (by decide +kernel) (fun w h => by simp only [List.mem_cons, List.not_mem_nil, or_false] at h; rcases h with rfl | rfl <;> rfl) rfl (fun C X => ?_)
  show hm_W C 0 0 _ M 0 [some (.ref mo), some (.int x), none, none] []
  refine hr_iconst (0) X dX6_isPrint_0 (by decide) ?_
  refine hr_istore_n X dX6_isPrint_1 (Nat.le_of_ble_eq_true rfl) ?_
  refine hr_iconst (0) X dX6_isPrint_2 (by decide) ?_
  refine hr_istore_n X dX6_isPrint_3 (Nat.le_of_ble_eq_true rfl) ?_
  have lp4 : ∀ (f : Nat) (n : Nat), n ≤ l.length → l.length < n + f → hm_W C 0 0 (hm_T C (hm_pu (some (.int (hm_bI (decide (x ∈ l))))) M) r_X6_isPrint.cells r_X6_isPrint.slots) M 4 [some (.ref mo), some (.int x), some (.int (hm_bI (sp_el (ta 24) x n))), some (.int (nI n))] [] := by
    intro f
    induction f with
    | zero => intro n h1 h2; exact absurd h2 (by omega)
    | succ f ih =>
      intro n h1 h2
      refine hr_iload_n X dX6_isPrint_4 rfl ?_
      refine hr_aload_n X dX6_isPrint_5 rfl (Or.inr ⟨_, rfl⟩) ?_
      refine mm_getS X kF6_215 dX6_isPrint_6 hR 25 rfl ?_
      rw [hl.1]
      refine hr_icmp_ge 38 X dX6_isPrint_9 (by decide) (fun c9 => ?_) (fun c9 => ?_)
      · have hz : n = l.length := by have := (nI_leI (by omega) (by omega)).mp c9; omega
        subst hz
        refine hr_iload_n X dX6_isPrint_38 rfl ?_
        exact hr_zret X dX6_isPrint_39 (hm_bIz _) (Nat.le_of_ble_eq_true rfl) (Nat.le_of_ble_eq_true rfl) ⟨by rw [sp_el_mem hl.2], rfl⟩
      · have hn : n < l.length := by
          rcases Nat.lt_or_ge n l.length with q | q
          · exact q
          · exact absurd (nI_le (by omega) (by omega)) c9
        have J31 : hm_W C 0 0 (hm_T C (hm_pu (some (.int (hm_bI (decide (x ∈ l))))) M) r_X6_isPrint.cells r_X6_isPrint.slots) M 31 [some (.ref mo), some (.int x), some (.int (hm_bI (sp_el (ta 24) x n))), some (.int (nI n))] [.int (hm_bI (sp_el (ta 24) x (n + 1)))] := by
          refine hr_istore_n X dX6_isPrint_31 (Nat.le_of_ble_eq_true rfl) ?_
          refine hr_iinc (1) X dX6_isPrint_32 rfl (by decide) ?_
          refine hr_goto 4 X dX6_isPrint_35 (by decide) ?_
          rw [mm_a1]
          exact ih (n + 1) (by omega) (by omega)
        refine hr_iload_n X dX6_isPrint_12 rfl ?_
        refine hr_if_ne 26 X dX6_isPrint_13 (by decide) (fun c13 => ?_) (fun c13 => ?_)
        · rw [hm_bI_ne] at c13
          have hz : sp_el (ta 24) x (n + 1) = true := by rw [sp_el, c13]; rfl
          refine hr_iconst (1) X dX6_isPrint_26 (by decide) ?_
          refine hr_goto 31 X dX6_isPrint_27 (by decide) ?_
          exact hr_eq (by rw [hz] <;> rfl) J31
        · rw [hm_bI_eq] at c13
          refine hr_aload_n X dX6_isPrint_16 rfl (Or.inr ⟨_, rfl⟩) ?_
          refine mm_getA X kF6_77 dX6_isPrint_17 hR 24 rfl ?_
          refine hr_iload_n X dX6_isPrint_20 rfl ?_
          refine mm_ialdT (n) X dX6_isPrint_21 hR rfl rfl (by simp only [mm_len, sp_e]; omega) ?_
          refine hr_iload_n X dX6_isPrint_22 rfl ?_
          refine hr_icmp_ne 30 X dX6_isPrint_23 (by decide) (fun c23 => ?_) (fun c23 => ?_)
          · have hz : sp_el (ta 24) x (n + 1) = false := by rw [sp_el, c13, Bool.false_or]; exact decide_eq_false c23
            refine hr_iconst (0) X dX6_isPrint_30 (by decide) ?_
            exact hr_eq (by rw [hz] <;> rfl) J31
          · have hz : sp_el (ta 24) x (n + 1) = true := by rw [sp_el, c13, Bool.false_or]; exact decide_eq_true c23
            refine hr_iconst (1) X dX6_isPrint_26 (by decide) ?_
            refine hr_goto 31 X dX6_isPrint_27 (by decide) ?_
            exact hr_eq (by rw [hz] <;> rfl) J31
  exact lp4 (l.length + 1) 0 (Nat.zero_le _) (by omega)
set_option maxHeartbeats 4000000 in
set_option maxRecDepth 100000 in
theorem s_X6_lay_57 (cA : Nat → ClassId) {sg ta0 : mm_S} {ad : Nat → Nat} {mo : Nat} {M0 : hm_M} (hI : sp_I sg) {C : hm_C} (X : hm_X C yX6_lay.cls cX6_lay 7 none yX6_lay.name r_X6_lay cA) (k t v wc : Nat) (hk : k < 48) (ht : t < 5) (hks : k / 12 < sp_n sg) (hvt : sp_th sg (k / 12) v) (hv : sg 14 k = nI v) (hw : sg 20 (5 * k + t) = nI wc) (hwc : wc ≤ 12) (hll : (sp_layL sg k t).length ≤ 10 * t) (K : ∀ (y5 y6 : Option Value) (M : hm_M) (ta : mm_S), mm_R cA sg ta ad mo M0 M → (∀ j, j ≠ 24 → j ≠ 25 → ta j = ta0 j) → mm_pl ta (sp_layL sg k (t + 1)) → hm_W C 0 0 (hm_T C (fun r9 M' => ∃ ta' : mm_S, mm_R cA sg ta' ad mo M0 M' ∧ r9 = none ∧ mm_pl ta' (sp_prs sg k) ∧ ∀ j, j ≠ 24 → j ≠ 25 → ta' j = ta0 j) r_X6_lay.cells r_X6_lay.slots) M 184 [some (.ref mo), some (.int (nI k)), some (.int (nI t)), some (.int (sp_o ((sp_has sg (k / 12) v t).map (fun u => sp_e (k / 12) u t)))), some (.int (nI (5 * k + t))), y5, y6] [])(y6 : Option Value) (M : hm_M) (ta : mm_S) (hR : mm_R cA sg ta ad mo M0 M) (hta : ∀ j, j ≠ 24 → j ≠ 25 → ta j = ta0 j) (hpl : mm_pl ta (sp_layL sg k t)) : hm_W C 0 0 (hm_T C (fun r9 M' => ∃ ta' : mm_S, mm_R cA sg ta' ad mo M0 M' ∧ r9 = none ∧ mm_pl ta' (sp_prs sg k) ∧ ∀ j, j ≠ 24 → j ≠ 25 → ta' j = ta0 j) r_X6_lay.cells r_X6_lay.slots) M 57 [some (.ref mo), some (.int (nI k)), some (.int (nI t)), some (.int (sp_o ((sp_has sg (k / 12) v t).map (fun u => sp_e (k / 12) u t)))), some (.int (nI (5 * k + t))), some (.int (nI 0)), y6] [] := by
  have hv16 := hvt.1
  have hs4 : k / 12 < 4 := by omega
  have ev : nN (sg 14 k) = v := by rw [hv]; exact nI_clamp (by omega)
  have ew : nN (sg 20 (5 * k + t)) = wc := by rw [hw]; exact nI_clamp (by omega)
  cases hq : sp_has sg (k / 12) v t with
  | none =>
    rw [hq] at K
    refine hr_iload_n X dX6_lay_57 rfl ?_
    refine hr_iconst (-1) X dX6_lay_58 (by decide) ?_
    refine hr_icmp_eq 184 X dX6_lay_59 (by decide) (fun c59 => ?_) (fun c59 => ?_)
    · exact K _ _ _ _ hR hta (by show mm_pl ta (sp_layT sg k t (sp_layL sg k t)); rw [sp_layT, ev, hq]; exact hpl)
    · exact absurd rfl c59
  | some u =>
    rw [hq] at K
    have hqs := sp_has_some hI hks hvt hq
    have hu16 := hqs.1.1
    have he : sp_e (k / 12) u t < 320 := by simp only [sp_e]; omega
    show hm_W C 0 0 (hm_T C (fun r9 M' => ∃ ta' : mm_S, mm_R cA sg ta' ad mo M0 M' ∧ r9 = none ∧ mm_pl ta' (sp_prs sg k) ∧ ∀ j, j ≠ 24 → j ≠ 25 → ta' j = ta0 j) r_X6_lay.cells r_X6_lay.slots) M 57 [some (.ref mo), some (.int (nI k)), some (.int (nI t)), some (.int (nI (sp_e (k / 12) u t))), some (.int (nI (5 * k + t))), some (.int (nI 0)), y6] []
    by_cases h2 : sg 6 (sp_e (k / 12) u t) = 2
    · have lp57 : ∀ (f : Nat) (i : Nat) (y6 : Option Value) (M : hm_M) (ta : mm_S), mm_R cA sg ta ad mo M0 M → (∀ j, j ≠ 24 → j ≠ 25 → ta j = ta0 j) → mm_pl ta (sp_layI sg (sg 8 (sp_e (k / 12) u t)) (5 * k + t) (sp_layL sg k t) i) → i ≤ wc - 2 → wc - 2 < i + f → hm_W C 0 0 (hm_T C (fun r9 M' => ∃ ta' : mm_S, mm_R cA sg ta' ad mo M0 M' ∧ r9 = none ∧ mm_pl ta' (sp_prs sg k) ∧ ∀ j, j ≠ 24 → j ≠ 25 → ta' j = ta0 j) r_X6_lay.cells r_X6_lay.slots) M 57 [some (.ref mo), some (.int (nI k)), some (.int (nI t)), some (.int (nI (sp_e (k / 12) u t))), some (.int (nI (5 * k + t))), some (.int (nI i)), y6] [] := by
        intro f
        induction f with
        | zero => intro i y6 M ta hR hta hpl h1 h3; exact absurd h3 (by omega)
        | succ f ih =>
          intro i y6 M ta hR hta hpl h1 h3
          refine hr_iload_n X dX6_lay_57 rfl ?_
          refine hr_iconst (-1) X dX6_lay_58 (by decide) ?_
          refine hr_icmp_eq 184 X dX6_lay_59 (by decide) (fun c59 => ?_) (fun c59 => ?_)
          · exact absurd c59 (nI_m1 (by omega))
          · refine hr_aload_n X dX6_lay_62 rfl (Or.inr ⟨_, rfl⟩) ?_
            refine mm_getA X kF6_23 dX6_lay_63 hR 6 rfl ?_
            refine hr_iload_n X dX6_lay_66 rfl ?_
            refine mm_iald (sp_e (k / 12) u t) X dX6_lay_67 hR rfl rfl (by simp only [mm_len, sp_e]; omega) ?_
            refine hr_iconst (2) X dX6_lay_68 (by decide) ?_
            refine hr_icmp_ne 184 X dX6_lay_69 (by decide) (fun c69 => ?_) (fun c69 => ?_)
            · exact absurd h2 c69
            · refine hr_iload X dX6_lay_72 rfl ?_
              refine hr_iconst (2) X dX6_lay_74 (by decide) ?_
              refine hr_iadd X dX6_lay_75 ?_
              refine hr_aload_n X dX6_lay_76 rfl (Or.inr ⟨_, rfl⟩) ?_
              refine mm_getA X kF6_65 dX6_lay_77 hR 20 rfl ?_
              refine hr_iload X dX6_lay_80 rfl ?_
              refine mm_iald (5 * k + t) X dX6_lay_82 hR rfl rfl (by simp only [mm_len, sp_e]; omega) ?_
              rw [hw]
              refine hr_icmp_ge 184 X dX6_lay_83 (by decide) (fun c83 => ?_) (fun c83 => ?_)
              · rw [mm_a2] at c83
                have hz : i = wc - 2 := by have := (nI_leI (by omega) (by omega)).mp c83; omega
                subst hz
                exact K _ _ _ _ hR hta (by show mm_pl ta (sp_layT sg k t (sp_layL sg k t)); rw [sp_layT, ev, hq]; show mm_pl ta (if _ then _ else _); rw [if_pos h2, ew]; exact hpl)
              · rw [mm_a2] at c83
                have hn : i + 2 < wc := by
                  rcases Nat.lt_or_ge (i + 2) wc with q | q
                  · exact q
                  · exact absurd (nI_le q (by omega)) c83
                have hlen := sp_layI_len sg (sg 8 (sp_e (k / 12) u t)) (5 * k + t) (sp_layL sg k t) i
                refine hr_aload_n X dX6_lay_86 rfl (Or.inr ⟨_, rfl⟩) ?_
                refine mm_getA X kF6_68 dX6_lay_87 hR 21 rfl ?_
                refine hr_bipush (12) X dX6_lay_90 (by decide) ?_
                refine hr_iload X dX6_lay_92 rfl ?_
                refine hr_imul X dX6_lay_94 ?_
                refine hr_iload X dX6_lay_95 rfl ?_
                refine hr_iadd X dX6_lay_97 ?_
                refine mm_iald (12 * (5 * k + t) + i) X dX6_lay_98 hR rfl (by simp only [mm_m2, mm_m3, mm_m4, mm_m5, mm_m12, mm_m16, nI_add, mm_a1, mm_a2, mm_a3, mm_a5, mm_a12, sp_e]) (by simp only [mm_len, sp_e]; omega) ?_
                refine hr_aload_n X dX6_lay_99 rfl (Or.inr ⟨_, rfl⟩) ?_
                refine mm_getA X kF6_68 dX6_lay_100 hR 21 rfl ?_
                refine hr_bipush (12) X dX6_lay_103 (by decide) ?_
                refine hr_iload X dX6_lay_105 rfl ?_
                refine hr_imul X dX6_lay_107 ?_
                refine hr_iload X dX6_lay_108 rfl ?_
                refine hr_iadd X dX6_lay_110 ?_
                refine hr_iconst (1) X dX6_lay_111 (by decide) ?_
                refine hr_iadd X dX6_lay_112 ?_
                refine mm_iald (12 * (5 * k + t) + i + 1) X dX6_lay_113 hR rfl (by simp only [mm_m2, mm_m3, mm_m4, mm_m5, mm_m12, mm_m16, nI_add, mm_a1, mm_a2, mm_a3, mm_a5, mm_a12, sp_e]) (by simp only [mm_len, sp_e]; omega) ?_
                refine hr_aload_n X dX6_lay_114 rfl (Or.inr ⟨_, rfl⟩) ?_
                refine mm_getA X kF6_68 dX6_lay_115 hR 21 rfl ?_
                refine hr_bipush (12) X dX6_lay_118 (by decide) ?_
                refine hr_iload X dX6_lay_120 rfl ?_
                refine hr_imul X dX6_lay_122 ?_
                refine hr_iload X dX6_lay_123 rfl ?_
                refine hr_iadd X dX6_lay_125 ?_
                refine hr_iconst (2) X dX6_lay_126 (by decide) ?_
                refine hr_iadd X dX6_lay_127 ?_
                refine mm_iald (12 * (5 * k + t) + i + 2) X dX6_lay_128 hR rfl (by simp only [mm_m2, mm_m3, mm_m4, mm_m5, mm_m12, mm_m16, nI_add, mm_a1, mm_a2, mm_a3, mm_a5, mm_a12, sp_e]) (by simp only [mm_len, sp_e]; omega) ?_
                refine hr_callS X kC6_212 dX6_lay_129 (c_X6_print cA (M := _) (sg 21 (12 * (5 * k + t) + i)) (sg 21 (12 * (5 * k + t) + i + 1)) (sg 21 (12 * (5 * k + t) + i + 2))) rfl rfl rfl (Nat.le_of_ble_eq_true rfl) ⟨⟨(Nat.le_of_ble_eq_true rfl), (Nat.le_of_ble_eq_true rfl)⟩, (Nat.le_of_ble_eq_true rfl), (Nat.le_of_ble_eq_true rfl)⟩ (fun v M129 hp => ?_)
                obtain ⟨rfl, rfl⟩ := hp
                refine hr_istore X dX6_lay_132 (Nat.le_of_ble_eq_true rfl) ?_
                refine hr_aload_n X dX6_lay_134 rfl (Or.inr ⟨_, rfl⟩) ?_
                refine mm_getA X kF6_29 dX6_lay_135 hR 8 rfl ?_
                refine hr_iload_n X dX6_lay_138 rfl ?_
                refine mm_iald (sp_e (k / 12) u t) X dX6_lay_139 hR rfl rfl (by simp only [mm_len, sp_e]; omega) ?_
                refine hr_iload X dX6_lay_140 rfl ?_
                refine hr_callS X kC6_218 dX6_lay_142 (c_X6_isInRule cA (M := _) (sg 8 (sp_e (k / 12) u t)) (sp_pt sg (5 * k + t) i)) rfl rfl rfl (Nat.le_of_ble_eq_true rfl) ⟨⟨(Nat.le_of_ble_eq_true rfl), (Nat.le_of_ble_eq_true rfl)⟩, (Nat.le_of_ble_eq_true rfl), (Nat.le_of_ble_eq_true rfl)⟩ (fun v M142 hp => ?_)
                obtain ⟨rfl, rfl⟩ := hp
                refine hr_if_ne 178 X dX6_lay_145 (by decide) (fun c145 => ?_) (fun c145 => ?_)
                · rw [hm_bI_ne] at c145
                  have hpl1 : mm_pl ta (sp_layI sg (sg 8 (sp_e (k / 12) u t)) (5 * k + t) (sp_layL sg k t) (i + 1)) := by rw [sp_layI, if_pos c145]; exact hpl
                  refine hr_iinc (1) X dX6_lay_178 rfl (by decide) ?_
                  refine hr_goto 57 X dX6_lay_181 (by decide) ?_
                  rw [mm_a1]
                  exact ih (i + 1) _ _ _ hR hta hpl1 (by omega) (by omega)
                · rw [hm_bI_eq] at c145
                  refine hr_aload_n X dX6_lay_148 rfl (Or.inr ⟨_, rfl⟩) ?_
                  refine hr_iload X dX6_lay_149 rfl ?_
                  refine hr_callV X kC6_221 dX6_lay_151 (c_X6_isPrint cA hR (sp_pt sg (5 * k + t) i) (sp_layI sg (sg 8 (sp_e (k / 12) u t)) (5 * k + t) (sp_layL sg k t) i) hpl (by omega)) hR.1 rfl rfl rfl rfl (Nat.le_of_ble_eq_true rfl) ⟨⟨(Nat.le_of_ble_eq_true rfl), (Nat.le_of_ble_eq_true rfl)⟩, (Nat.le_of_ble_eq_true rfl), (Nat.le_of_ble_eq_true rfl)⟩ (fun v M151 hp => ?_)
                  obtain ⟨rfl, rfl⟩ := hp
                  refine hr_if_ne 178 X dX6_lay_154 (by decide) (fun c154 => ?_) (fun c154 => ?_)
                  · rw [hm_bI_ne] at c154
                    have hpl1 : mm_pl ta (sp_layI sg (sg 8 (sp_e (k / 12) u t)) (5 * k + t) (sp_layL sg k t) (i + 1)) := by rw [sp_layI, if_neg (by rw [c145]; decide), sp_ad, if_pos (of_decide_eq_true c154)]; exact hpl
                    refine hr_iinc (1) X dX6_lay_178 rfl (by decide) ?_
                    refine hr_goto 57 X dX6_lay_181 (by decide) ?_
                    rw [mm_a1]
                    exact ih (i + 1) _ _ _ hR hta hpl1 (by omega) (by omega)
                  · rw [hm_bI_eq] at c154
                    refine hr_aload_n X dX6_lay_157 rfl (Or.inr ⟨_, rfl⟩) ?_
                    refine mm_getA X kF6_77 dX6_lay_158 hR 24 rfl ?_
                    refine hr_aload_n X dX6_lay_161 rfl (Or.inr ⟨_, rfl⟩) ?_
                    refine mm_getS X kF6_215 dX6_lay_162 hR 25 rfl ?_
                    refine hr_iload X dX6_lay_165 rfl ?_
                    refine mm_iastT ((sp_layI sg (sg 8 (sp_e (k / 12) u t)) (5 * k + t) (sp_layL sg k t) i).length) X dX6_lay_167 hR rfl hpl.1 (by simp only [mm_len]; omega) (fun M167 hR => ?_)
                    refine hr_aload_n X dX6_lay_168 rfl (Or.inr ⟨_, rfl⟩) ?_
                    refine hr_dup X dX6_lay_169 rfl ?_
                    refine mm_getS X kF6_215 dX6_lay_170 hR 25 rfl ?_
                    refine hr_iconst (1) X dX6_lay_173 (by decide) ?_
                    refine hr_iadd X dX6_lay_174 ?_
                    refine mm_putS25 X kF6_215 dX6_lay_175 hR (fun M175 hR => ?_)
                    have hpl1 : mm_pl (mm_up (mm_up ta 24 (sp_layI sg (sg 8 (sp_e (k / 12) u t)) (5 * k + t) (sp_layL sg k t) i).length (sp_pt sg (5 * k + t) i)) 25 0 (ta 25 0 + 1)) (sp_layI sg (sg 8 (sp_e (k / 12) u t)) (5 * k + t) (sp_layL sg k t) (i + 1)) := by
                      rw [sp_layI, if_neg (by rw [c145]; decide), sp_ad, if_neg (of_decide_eq_false c154)]
                      exact hpl.add (by rw [mm_up_s, hpl.1, mm_a1]) (by rw [mm_up_j (by decide), mm_up_s]) (fun q hq => by rw [mm_up_j (by decide), mm_up_x (by omega)])
                    have hta : ∀ j, j ≠ 24 → j ≠ 25 → mm_up (mm_up ta 24 (sp_layI sg (sg 8 (sp_e (k / 12) u t)) (5 * k + t) (sp_layL sg k t) i).length (sp_pt sg (5 * k + t) i)) 25 0 (ta 25 0 + 1) j = ta0 j := fun j a b => by rw [mm_up_j b, mm_up_j a]; exact hta j a b
                    refine hr_iinc (1) X dX6_lay_178 rfl (by decide) ?_
                    refine hr_goto 57 X dX6_lay_181 (by decide) ?_
                    rw [mm_a1]
                    exact ih (i + 1) _ _ _ hR hta hpl1 (by omega) (by omega)
      exact lp57 (wc - 2 + 1) 0 y6 _ _ hR hta hpl (Nat.zero_le _) (by omega)
    · refine hr_iload_n X dX6_lay_57 rfl ?_
      refine hr_iconst (-1) X dX6_lay_58 (by decide) ?_
      refine hr_icmp_eq 184 X dX6_lay_59 (by decide) (fun c59 => ?_) (fun c59 => ?_)
      · exact absurd c59 (nI_m1 (by omega))
      · refine hr_aload_n X dX6_lay_62 rfl (Or.inr ⟨_, rfl⟩) ?_
        refine mm_getA X kF6_23 dX6_lay_63 hR 6 rfl ?_
        refine hr_iload_n X dX6_lay_66 rfl ?_
        refine mm_iald (sp_e (k / 12) u t) X dX6_lay_67 hR rfl rfl (by simp only [mm_len, sp_e]; omega) ?_
        refine hr_iconst (2) X dX6_lay_68 (by decide) ?_
        refine hr_icmp_ne 184 X dX6_lay_69 (by decide) (fun c69 => ?_) (fun c69 => ?_)
        · exact K _ _ _ _ hR hta (by show mm_pl ta (sp_layT sg k t (sp_layL sg k t)); rw [sp_layT, ev, hq]; show mm_pl ta (if _ then _ else _); rw [if_neg h2]; exact hpl)
        · exact absurd c69 h2
set_option maxHeartbeats 4000000 in
set_option maxRecDepth 100000 in
theorem c_X6_lay (cA : Nat → ClassId) {sg ta0 : mm_S} {ad : Nat → Nat} {mo : Nat} {M0 M : hm_M} (hR : mm_R cA sg ta0 ad mo M0 M) (hI : sp_I sg) (k : Nat) (hk : k < 48) : hm_Met cA yX6_lay cX6_lay 7 none r_X6_lay [.ref mo, .int (nI k)] M (fun r9 M' => ∃ ta' : mm_S, mm_R cA sg ta' ad mo M0 M' ∧ r9 = none ∧ mm_pl ta' (sp_prs sg k) ∧ ∀ j, j ≠ 24 → j ≠ 25 → ta' j = ta0 j) := by
  refine hm_met 5 (by decide +kernel) (fun w h => by simp only [List.mem_cons, List.not_mem_nil, or_false] at h; rcases h with rfl | rfl <;> rfl) rfl (fun C X => ?_)
  show hm_W C 0 0 _ M 0 [some (.ref mo), some (.int (nI k)), none, none, none, none, none] []
  refine hr_aload_n X dX6_lay_0 rfl (Or.inr ⟨_, rfl⟩) ?_
  refine hr_iconst (0) X dX6_lay_1 (by decide) ?_
  refine mm_putS25 X kF6_215 dX6_lay_2 hR (fun M2 hR => ?_)
  refine hr_iconst (0) X dX6_lay_5 (by decide) ?_
  refine hr_istore_n X dX6_lay_6 (Nat.le_of_ble_eq_true rfl) ?_
  have lp7 : ∀ (f : Nat) (t : Nat) (y3 y4 y5 y6 : Option Value) (M : hm_M) (ta : mm_S), mm_R cA sg ta ad mo M0 M → (∀ j, j ≠ 24 → j ≠ 25 → ta j = ta0 j) → mm_pl ta (sp_layL sg k t) → t ≤ 5 → 5 < t + f → (0 < t → sg 13 k = 2 ∧ 0 < sg 15 k) → hm_W C 0 0 (hm_T C (fun r9 M' => ∃ ta' : mm_S, mm_R cA sg ta' ad mo M0 M' ∧ r9 = none ∧ mm_pl ta' (sp_prs sg k) ∧ ∀ j, j ≠ 24 → j ≠ 25 → ta' j = ta0 j) r_X6_lay.cells r_X6_lay.slots) M 7 [some (.ref mo), some (.int (nI k)), some (.int (nI t)), y3, y4, y5, y6] [] := by
    intro f
    induction f with
    | zero => intro t y3 y4 y5 y6 M ta hR hta hpl h1 h2 h3; exact absurd h2 (by omega)
    | succ f ih =>
      intro t y3 y4 y5 y6 M ta hR hta hpl h1 h2 h3
      refine hr_iload_n X dX6_lay_7 rfl ?_
      refine hr_iconst (5) X dX6_lay_8 (by decide) ?_
      refine hr_icmp_ge 190 X dX6_lay_9 (by decide) (fun c9 => ?_) (fun c9 => ?_)
      · have hz : t = 5 := by have := (nI_leI (a := 5) (by decide) (by omega)).mp c9; omega
        subst hz
        have hp : mm_pl ta (sp_prs sg k) := by rw [sp_prs, if_pos (h3 (by decide))]; exact hpl
        exact hr_vret X dX6_lay_190 (Nat.le_of_ble_eq_true rfl) (Nat.le_of_ble_eq_true rfl) ⟨_, hR, rfl, hp, hta⟩
      · have hn : t < 5 := by
          rcases Nat.lt_or_ge t 5 with q | q
          · exact q
          · exact absurd (nI_le (by omega) (by omega)) c9
        refine hr_aload_n X dX6_lay_12 rfl (Or.inr ⟨_, rfl⟩) ?_
        refine mm_getA X kF6_44 dX6_lay_13 hR 13 rfl ?_
        refine hr_iload_n X dX6_lay_16 rfl ?_
        refine mm_iald (k) X dX6_lay_17 hR rfl rfl (by simp only [mm_len, sp_e]; omega) ?_
        refine hr_iconst (2) X dX6_lay_18 (by decide) ?_
        refine hr_icmp_ne 190 X dX6_lay_19 (by decide) (fun c19 => ?_) (fun c19 => ?_)
        · have hp : mm_pl ta (sp_prs sg k) := by
            rcases Nat.eq_zero_or_pos t with q | q
            · subst q
              rw [sp_prs, if_neg (fun q => c19 q.1)]
              exact hpl
            · exact absurd (h3 q).1 c19
          exact hr_vret X dX6_lay_190 (Nat.le_of_ble_eq_true rfl) (Nat.le_of_ble_eq_true rfl) ⟨_, hR, rfl, hp, hta⟩
        · refine hr_aload_n X dX6_lay_22 rfl (Or.inr ⟨_, rfl⟩) ?_
          refine mm_getA X kF6_50 dX6_lay_23 hR 15 rfl ?_
          refine hr_iload_n X dX6_lay_26 rfl ?_
          refine mm_iald (k) X dX6_lay_27 hR rfl rfl (by simp only [mm_len, sp_e]; omega) ?_
          refine hr_if_le 190 X dX6_lay_28 (by decide) (fun c28 => ?_) (fun c28 => ?_)
          · have hp : mm_pl ta (sp_prs sg k) := by
              rcases Nat.eq_zero_or_pos t with q | q
              · subst q
                rw [sp_prs, if_neg (fun q => Int32.not_lt.mpr c28 q.2)]
                exact hpl
              · exact absurd c28 (Int32.not_le.mpr (h3 q).2)
            exact hr_vret X dX6_lay_190 (Nat.le_of_ble_eq_true rfl) (Nat.le_of_ble_eq_true rfl) ⟨_, hR, rfl, hp, hta⟩
          · obtain ⟨hks, v, hv, hvt⟩ := sp_handed hI hk (by rw [c19]; decide)
            have hv16 := hvt.1
            have hs4 : k / 12 < 4 := by omega
            have ev : nN (sg 14 k) = v := by rw [hv]; exact nI_clamp (by omega)
            obtain ⟨-, -, ⟨wc, hwc, hw⟩, -⟩ := hI.i12 (5 * k + t) (by omega)
            have ew : nN (sg 20 (5 * k + t)) = wc := by rw [hw]; exact nI_clamp (by omega)
            have hll := sp_layL_len hI hk t (by omega)
            refine hr_aload_n X dX6_lay_31 rfl (Or.inr ⟨_, rfl⟩) ?_
            refine hr_iload_n X dX6_lay_32 rfl ?_
            refine hr_bipush (12) X dX6_lay_33 (by decide) ?_
            refine hr_idiv X dX6_lay_35 (by decide) ?_
            rw [mm_d12 (by omega)]
            refine hr_aload_n X dX6_lay_36 rfl (Or.inr ⟨_, rfl⟩) ?_
            refine mm_getA X kF6_47 dX6_lay_37 hR 14 rfl ?_
            refine hr_iload_n X dX6_lay_40 rfl ?_
            refine mm_iald (k) X dX6_lay_41 hR rfl rfl (by simp only [mm_len, sp_e]; omega) ?_
            rw [hv]
            refine hr_iload_n X dX6_lay_42 rfl ?_
            refine hr_callV X kC6_146 dX6_lay_43 (c_X6_has cA hR hI (k / 12) v t hks hvt hn) hR.1 rfl rfl rfl rfl (Nat.le_of_ble_eq_true rfl) ⟨⟨(Nat.le_of_ble_eq_true rfl), (Nat.le_of_ble_eq_true rfl)⟩, (Nat.le_of_ble_eq_true rfl), (Nat.le_of_ble_eq_true rfl)⟩ (fun v M43 hp => ?_)
            obtain ⟨rfl, rfl⟩ := hp
            refine hr_istore_n X dX6_lay_46 (Nat.le_of_ble_eq_true rfl) ?_
            refine hr_iconst (5) X dX6_lay_47 (by decide) ?_
            refine hr_iload_n X dX6_lay_48 rfl ?_
            refine hr_imul X dX6_lay_49 ?_
            refine hr_iload_n X dX6_lay_50 rfl ?_
            refine hr_iadd X dX6_lay_51 ?_
            rw [show (5 * nI k + nI t : Int32) = nI (5 * k + t) by rw [mm_m5, nI_add]]
            refine hr_istore X dX6_lay_52 (Nat.le_of_ble_eq_true rfl) ?_
            refine hr_iconst (0) X dX6_lay_54 (by decide) ?_
            refine hr_istore X dX6_lay_55 (Nat.le_of_ble_eq_true rfl) ?_
            have K : ∀ (y5 y6 : Option Value) (M : hm_M) (ta : mm_S), mm_R cA sg ta ad mo M0 M → (∀ j, j ≠ 24 → j ≠ 25 → ta j = ta0 j) → mm_pl ta (sp_layL sg k (t + 1)) → hm_W C 0 0 (hm_T C (fun r9 M' => ∃ ta' : mm_S, mm_R cA sg ta' ad mo M0 M' ∧ r9 = none ∧ mm_pl ta' (sp_prs sg k) ∧ ∀ j, j ≠ 24 → j ≠ 25 → ta' j = ta0 j) r_X6_lay.cells r_X6_lay.slots) M 184 [some (.ref mo), some (.int (nI k)), some (.int (nI t)), some (.int (sp_o ((sp_has sg (k / 12) v t).map (fun u => sp_e (k / 12) u t)))), some (.int (nI (5 * k + t))), y5, y6] [] := by
              intro y5 y6 M ta hR hta hpl1
              refine hr_iinc (1) X dX6_lay_184 rfl (by decide) ?_
              refine hr_goto 7 X dX6_lay_187 (by decide) ?_
              rw [mm_a1]
              exact ih (t + 1) _ _ _ _ _ _ hR hta hpl1 (by omega) (by omega) (fun _ => ⟨c19, Int32.not_le.mp c28⟩)
            exact s_X6_lay_57 cA hI X k t v wc hk hn hks hvt hv hw hwc hll K _ _ _ hR hta hpl
  exact lp7 6 0 none none none none _ _ hR (fun j a b => mm_up_j b) ⟨mm_up_s, fun i hi => absurd hi (Nat.not_lt_zero i)⟩ (by decide) (by decide) (fun h => absurd h (by decide))
