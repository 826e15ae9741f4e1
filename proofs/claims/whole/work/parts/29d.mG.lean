set_option maxHeartbeats 4000000 in
set_option maxRecDepth 100000 in
theorem c_X6_likeness (cA : Nat → ClassId) {sg ta : mm_S} {ad : Nat → Nat} {mo : Nat} {M0 M : hm_M} (hR : mm_R cA sg ta ad mo M0 M) (hI : sp_I sg) (s p q : Int32) : hm_Met cA yX6_likeness cX6_likeness 5 (some .int) r_X6_likeness [.ref mo, .int s, .int p, .int q] M (mm_P cA ad mo M0 (sp_w (sp_isS sg s && sp_in p 0 11 && sp_in q 0 11)) (sp_like sg s p q) (sg)) := by
  refine hm_met 1 (by decide +kernel) (fun w h => by simp only [List.mem_cons, List.not_mem_nil, or_false] at h; rcases h with rfl | rfl | rfl | rfl <;> rfl) rfl (fun C X => ?_)
  show hm_W C 0 0 _ M 0 [some (.ref mo), some (.int s), some (.int p), some (.int q), none] []
  have J27 : hm_W C 0 0 (hm_T C (mm_P cA ad mo M0 (sp_w (sp_isS sg s && sp_in p 0 11 && sp_in q 0 11)) (sp_like sg s p q) (sg)) r_X6_likeness.cells r_X6_likeness.slots) M 27 [some (.ref mo), some (.int s), some (.int p), some (.int q), none] [.int (hm_bI (sp_isS sg s && sp_in p 0 11 && sp_in q 0 11))] := by
    refine hr_istore X dX6_likeness_27 (Nat.le_of_ble_eq_true rfl) ?_
    have J40 : hm_W C 0 0 (hm_T C (mm_P cA ad mo M0 (sp_w (sp_isS sg s && sp_in p 0 11 && sp_in q 0 11)) (sp_like sg s p q) (sg)) r_X6_likeness.cells r_X6_likeness.slots) M 40 [some (.ref mo), some (.int s), some (.int p), some (.int q), some (.int (hm_bI (sp_isS sg s && sp_in p 0 11 && sp_in q 0 11)))] [.int (sp_w (sp_isS sg s && sp_in p 0 11 && sp_in q 0 11)), .ref mo] := by
      refine hr_callV X kC6_120 dX6_likeness_40 (c_X6_refused cA hR (sp_w (sp_isS sg s && sp_in p 0 11 && sp_in q 0 11))) hR.1 rfl rfl rfl rfl (Nat.le_of_ble_eq_true rfl) ⟨⟨(Nat.le_of_ble_eq_true rfl), (Nat.le_of_ble_eq_true rfl)⟩, (Nat.le_of_ble_eq_true rfl), (Nat.le_of_ble_eq_true rfl)⟩ (fun v M40 hp40 => ?_)
      obtain ⟨hR, rfl⟩ := hp40
      refine hr_if_ne 51 X dX6_likeness_43 (by decide) (fun c43 => ?_) (fun c43 => ?_)
      · rw [hm_bz] at c43
        have fin : ∀ h : sp_w (sp_isS sg s && sp_in p 0 11 && sp_in q 0 11) = 0, (0 : Int32) = sp_like sg s p q := fun h => absurd h c43
        refine hr_iconst (0) X dX6_likeness_51 (by decide) ?_
        refine hr_goto 75 X dX6_likeness_52 (by decide) ?_
        exact hr_iret X dX6_likeness_75 (Nat.le_of_ble_eq_true rfl) (Nat.le_of_ble_eq_true rfl) (by first
            | exact ⟨_, _, hR, rfl, by rw [hta1]; exact mm_up_s, fin⟩
            | exact ⟨_, _, hR, rfl, mm_up_s, fin⟩)
      · rw [hm_bz] at c43
        have hc0 := sp_w_0.mp c43
        rw [Bool.and_eq_true, Bool.and_eq_true] at hc0
        obtain ⟨a, ha, ha4, rfl⟩ := sp_isS_nat hI hc0.1.1
        obtain ⟨x, hx, rfl⟩ := sp_in_p hc0.1.2
        obtain ⟨y, hy, rfl⟩ := sp_in_p hc0.2
        have e1 : nN (nI a) = a := nI_clamp (by omega)
        have e2 : nN (nI x) = x := nI_clamp (by omega)
        have e3 : nN (nI y) = y := nI_clamp (by omega)
        refine hr_iload_n X dX6_likeness_46 rfl ?_
        refine hr_iload_n X dX6_likeness_47 rfl ?_
        refine hr_icmp_ne 55 X dX6_likeness_48 (by decide) (fun c48 => ?_) (fun c48 => ?_)
        · have fin : ∀ h : sp_w (sp_isS sg (nI a) && sp_in (nI x) 0 11 && sp_in (nI y) 0 11) = 0, sp_m1000 (sp_alk sg (12 * a + x) (12 * a + y)) = sp_like sg (nI a) (nI x) (nI y) := fun _ => by rw [sp_like, if_neg c48, sp_k, sp_k, e1, e2, e3]
          refine hr_aload_n X dX6_likeness_55 rfl (Or.inr ⟨_, rfl⟩) ?_
          refine hr_bipush (12) X dX6_likeness_56 (by decide) ?_
          refine hr_iload_n X dX6_likeness_58 rfl ?_
          refine hr_imul X dX6_likeness_59 ?_
          refine hr_iload_n X dX6_likeness_60 rfl ?_
          refine hr_iadd X dX6_likeness_61 ?_
          rw [show (12 * nI a + nI x : Int32) = nI (12 * a + x) by rw [mm_m12, nI_add]]
          refine hr_bipush (12) X dX6_likeness_62 (by decide) ?_
          refine hr_iload_n X dX6_likeness_64 rfl ?_
          refine hr_imul X dX6_likeness_65 ?_
          refine hr_iload_n X dX6_likeness_66 rfl ?_
          refine hr_iadd X dX6_likeness_67 ?_
          rw [show (12 * nI a + nI y : Int32) = nI (12 * a + y) by rw [mm_m12, nI_add]]
          refine hr_callV X kC6_227 dX6_likeness_68 (c_X6_alike cA hR hI (12 * a + x) (12 * a + y) (by omega) (by omega)) hR.1 rfl rfl rfl rfl (Nat.le_of_ble_eq_true rfl) ⟨⟨(Nat.le_of_ble_eq_true rfl), (Nat.le_of_ble_eq_true rfl)⟩, (Nat.le_of_ble_eq_true rfl), (Nat.le_of_ble_eq_true rfl)⟩ (fun v M68 hp68 => ?_)
          obtain ⟨ta1, hR, rfl, hta1⟩ := hp68
          refine hr_sipush (1000) X dX6_likeness_71 (by decide) ?_
          refine hr_irem X dX6_likeness_74 (by decide) ?_
          exact hr_iret X dX6_likeness_75 (Nat.le_of_ble_eq_true rfl) (Nat.le_of_ble_eq_true rfl) (by first
              | exact ⟨_, _, hR, rfl, by rw [hta1]; exact mm_up_s, fin⟩
              | exact ⟨_, _, hR, rfl, mm_up_s, fin⟩)
        · have fin : ∀ h : sp_w (sp_isS sg (nI a) && sp_in (nI x) 0 11 && sp_in (nI y) 0 11) = 0, (0 : Int32) = sp_like sg (nI a) (nI x) (nI y) := fun _ => by rw [sp_like, if_pos c48]
          refine hr_iconst (0) X dX6_likeness_51 (by decide) ?_
          refine hr_goto 75 X dX6_likeness_52 (by decide) ?_
          exact hr_iret X dX6_likeness_75 (Nat.le_of_ble_eq_true rfl) (Nat.le_of_ble_eq_true rfl) (by first
              | exact ⟨_, _, hR, rfl, by rw [hta1]; exact mm_up_s, fin⟩
              | exact ⟨_, _, hR, rfl, mm_up_s, fin⟩)
    refine hr_aload_n X dX6_likeness_29 rfl (Or.inr ⟨_, rfl⟩) ?_
    refine hr_iload X dX6_likeness_30 rfl ?_
    refine hr_if_eq 39 X dX6_likeness_32 (by decide) (fun c32 => ?_) (fun c32 => ?_)
    · rw [hm_bI_eq] at c32
      have hz : sp_w (sp_isS sg s && sp_in p 0 11 && sp_in q 0 11) = 1 := by rw [sp_w, c32]; rfl
      refine hr_iconst (1) X dX6_likeness_39 (by decide) ?_
      exact hr_eq (by rw [hz] <;> rfl) J40
    · rw [hm_bI_ne] at c32
      have hz : sp_w (sp_isS sg s && sp_in p 0 11 && sp_in q 0 11) = 0 := by rw [sp_w, c32]; rfl
      refine hr_iconst (0) X dX6_likeness_35 (by decide) ?_
      refine hr_goto 40 X dX6_likeness_36 (by decide) ?_
      exact hr_eq (by rw [hz] <;> rfl) J40
  refine hr_aload_n X dX6_likeness_0 rfl (Or.inr ⟨_, rfl⟩) ?_
  refine hr_iload_n X dX6_likeness_1 rfl ?_
  refine hr_callV X kC6_94 dX6_likeness_2 (c_X6_isSheet cA hR s) hR.1 rfl rfl rfl rfl (Nat.le_of_ble_eq_true rfl) ⟨⟨(Nat.le_of_ble_eq_true rfl), (Nat.le_of_ble_eq_true rfl)⟩, (Nat.le_of_ble_eq_true rfl), (Nat.le_of_ble_eq_true rfl)⟩ (fun v M2 hp => ?_)
  obtain ⟨rfl, rfl⟩ := hp
  refine hr_if_eq 26 X dX6_likeness_5 (by decide) (fun c5 => ?_) (fun c5 => ?_)
  · rw [hm_bI_eq] at c5
    have hz : (sp_isS sg s && sp_in p 0 11 && sp_in q 0 11) = false := by simp [c5]
    refine hr_iconst (0) X dX6_likeness_26 (by decide) ?_
    exact hr_eq (by rw [hz] <;> rfl) J27
  · rw [hm_bI_ne] at c5
    refine hr_iload_n X dX6_likeness_8 rfl ?_
    refine hr_callS X kC6_193 dX6_likeness_9 (c_X6_isPupil cA (M := M) p) rfl rfl rfl (Nat.le_of_ble_eq_true rfl) ⟨⟨(Nat.le_of_ble_eq_true rfl), (Nat.le_of_ble_eq_true rfl)⟩, (Nat.le_of_ble_eq_true rfl), (Nat.le_of_ble_eq_true rfl)⟩ (fun v M9 hp => ?_)
    obtain ⟨rfl, rfl⟩ := hp
    refine hr_if_eq 26 X dX6_likeness_12 (by decide) (fun c12 => ?_) (fun c12 => ?_)
    · rw [hm_bI_eq] at c12
      have hz : (sp_isS sg s && sp_in p 0 11 && sp_in q 0 11) = false := by simp [c12]
      refine hr_iconst (0) X dX6_likeness_26 (by decide) ?_
      exact hr_eq (by rw [hz] <;> rfl) J27
    · rw [hm_bI_ne] at c12
      refine hr_iload_n X dX6_likeness_15 rfl ?_
      refine hr_callS X kC6_193 dX6_likeness_16 (c_X6_isPupil cA (M := M) q) rfl rfl rfl (Nat.le_of_ble_eq_true rfl) ⟨⟨(Nat.le_of_ble_eq_true rfl), (Nat.le_of_ble_eq_true rfl)⟩, (Nat.le_of_ble_eq_true rfl), (Nat.le_of_ble_eq_true rfl)⟩ (fun v M16 hp => ?_)
      obtain ⟨rfl, rfl⟩ := hp
      refine hr_if_eq 26 X dX6_likeness_19 (by decide) (fun c19 => ?_) (fun c19 => ?_)
      · rw [hm_bI_eq] at c19
        have hz : (sp_isS sg s && sp_in p 0 11 && sp_in q 0 11) = false := by simp [c19]
        refine hr_iconst (0) X dX6_likeness_26 (by decide) ?_
        exact hr_eq (by rw [hz] <;> rfl) J27
      · rw [hm_bI_ne] at c19
        have hz : (sp_isS sg s && sp_in p 0 11 && sp_in q 0 11) = true := by simp [c5, c12, c19]
        refine hr_iconst (1) X dX6_likeness_22 (by decide) ?_
        refine hr_goto 27 X dX6_likeness_23 (by decide) ?_
        exact hr_eq (by rw [hz] <;> rfl) J27
set_option maxHeartbeats 4000000 in
set_option maxRecDepth 100000 in
theorem s_X6_pairAt_110 (cA : Nat → ClassId) {sg ta : mm_S} {ad : Nat → Nat} {mo : Nat} {M0 M : hm_M} (hR : mm_R cA sg ta ad mo M0 M) {C : hm_C} (X : hm_X C yX6_pairAt.cls cX6_pairAt 7 (some .int) yX6_pairAt.name r_X6_pairAt cA) (r : Int32) (y1 y2 y3 y4 y6 : Option Value) : hm_W C 0 0 (hm_T C (mm_P cA ad mo M0 (sp_w (!decide (r = -1))) (r) sg) r_X6_pairAt.cells r_X6_pairAt.slots) M 110 [some (.ref mo), y1, y2, y3, y4, some (.int r), y6] [] := by
  have J122 : hm_W C 0 0 (hm_T C (mm_P cA ad mo M0 (sp_w (!decide (r = -1))) (r) sg) r_X6_pairAt.cells r_X6_pairAt.slots) M 122 [some (.ref mo), y1, y2, y3, y4, some (.int r), y6] [.int (sp_w (!decide (r = -1))), .ref mo] := by
    refine hr_callV X kC6_120 dX6_pairAt_122 (c_X6_refused cA hR (sp_w (!decide (r = -1)))) hR.1 rfl rfl rfl rfl (Nat.le_of_ble_eq_true rfl) ⟨⟨(Nat.le_of_ble_eq_true rfl), (Nat.le_of_ble_eq_true rfl)⟩, (Nat.le_of_ble_eq_true rfl), (Nat.le_of_ble_eq_true rfl)⟩ (fun v M122 hp122 => ?_)
    obtain ⟨hR, rfl⟩ := hp122
    refine hr_if_eq 132 X dX6_pairAt_125 (by decide) (fun c125 => ?_) (fun c125 => ?_)
    · rw [hm_bz] at c125
      refine hr_iload X dX6_pairAt_132 rfl ?_
      exact hr_iret X dX6_pairAt_134 (Nat.le_of_ble_eq_true rfl) (Nat.le_of_ble_eq_true rfl) (by first
          | exact ⟨_, _, hR, rfl, mm_up_s, fun _ => rfl⟩
          | exact ⟨_, _, hR, rfl, mm_up_s, fun q => absurd q c125⟩)
    · rw [hm_bz] at c125
      refine hr_iconst (0) X dX6_pairAt_128 (by decide) ?_
      refine hr_goto 134 X dX6_pairAt_129 (by decide) ?_
      exact hr_iret X dX6_pairAt_134 (Nat.le_of_ble_eq_true rfl) (Nat.le_of_ble_eq_true rfl) (by first
          | exact ⟨_, _, hR, rfl, mm_up_s, fun _ => rfl⟩
          | exact ⟨_, _, hR, rfl, mm_up_s, fun q => absurd q c125⟩)
  refine hr_aload_n X dX6_pairAt_110 rfl (Or.inr ⟨_, rfl⟩) ?_
  refine hr_iload X dX6_pairAt_111 rfl ?_
  refine hr_iconst (-1) X dX6_pairAt_113 (by decide) ?_
  refine hr_icmp_ne 121 X dX6_pairAt_114 (by decide) (fun c114 => ?_) (fun c114 => ?_)
  · have hz : sp_w (!decide (r = -1)) = 0 := by rw [decide_eq_false c114]; rfl
    refine hr_iconst (0) X dX6_pairAt_121 (by decide) ?_
    exact hr_eq (by rw [hz] <;> rfl) J122
  · have hz : sp_w (!decide (r = -1)) = 1 := by rw [decide_eq_true c114]; rfl
    refine hr_iconst (1) X dX6_pairAt_117 (by decide) ?_
    refine hr_goto 122 X dX6_pairAt_118 (by decide) ?_
    exact hr_eq (by rw [hz] <;> rfl) J122
set_option maxHeartbeats 4000000 in
set_option maxRecDepth 100000 in
theorem s_X6_pairAt_27 (cA : Nat → ClassId) {sg ta : mm_S} {ad : Nat → Nat} {mo : Nat} {M0 : hm_M} (hI : sp_I sg) {C : hm_C} (X : hm_X C yX6_pairAt.cls cX6_pairAt 7 (some .int) yX6_pairAt.name r_X6_pairAt cA) (a : Nat) (place : Int32) (ha4 : a < 4) (K : ∀ (M : hm_M) (ta : mm_S) (y4 y6 : Option Value), mm_R cA sg ta ad mo M0 M → hm_W C 0 0 (hm_T C (mm_P cA ad mo M0 (sp_w (!decide (sp_paR sg (nI a) place = -1))) (sp_paR sg (nI a) place) sg) r_X6_pairAt.cells r_X6_pairAt.slots) M 110 [some (.ref mo), some (.int (nI a)), some (.int place), some (.int 1), y4, some (.int (sp_pa sg a place 144).2), y6] []) (M : hm_M) (ta : mm_S) (hR : mm_R cA sg ta ad mo M0 M) : hm_W C 0 0 (hm_T C (mm_P cA ad mo M0 (sp_w (!decide (sp_paR sg (nI a) place = -1))) (sp_paR sg (nI a) place) sg) r_X6_pairAt.cells r_X6_pairAt.slots) M 27 [some (.ref mo), some (.int (nI a)), some (.int place), some (.int 1), some (.int place), some (.int (-1)), some (.int (nI 0))] [] := by
  have lp27 : ∀ (f : Nat) (n : Nat) (M : hm_M) (ta : mm_S), mm_R cA sg ta ad mo M0 M → n ≤ 144 → 144 < n + f → hm_W C 0 0 (hm_T C (mm_P cA ad mo M0 (sp_w (!decide (sp_paR sg (nI a) place = -1))) (sp_paR sg (nI a) place) sg) r_X6_pairAt.cells r_X6_pairAt.slots) M 27 [some (.ref mo), some (.int (nI a)), some (.int place), some (.int 1), some (.int (sp_pa sg a place n).1), some (.int (sp_pa sg a place n).2), some (.int (nI n))] [] := by
    intro f
    induction f with
    | zero => intro n M ta hR h1 h2; exact absurd h2 (by omega)
    | succ f ih =>
      intro n M ta hR h1 h2
      refine hr_iload_n X dX6_pairAt_27 rfl ?_
      refine hr_if_eq 110 X dX6_pairAt_28 (by decide) (fun c28 => ?_) (fun c28 => ?_)
      · exact absurd c28 (by decide)
      · refine hr_iload X dX6_pairAt_31 rfl ?_
        refine hr_iconst (-1) X dX6_pairAt_33 (by decide) ?_
        refine hr_icmp_ne 110 X dX6_pairAt_34 (by decide) (fun c34 => ?_) (fun c34 => ?_)
        · have hs := sp_pa_stay sg a place c34 (144 - n)
          rw [show n + (144 - n) = 144 by omega] at hs
          rw [← hs]
          exact K _ _ _ _ hR
        · refine hr_iload X dX6_pairAt_37 rfl ?_
          refine hr_sipush (144) X dX6_pairAt_39 (by decide) ?_
          refine hr_icmp_ge 110 X dX6_pairAt_42 (by decide) (fun c42 => ?_) (fun c42 => ?_)
          · have hz : n = 144 := by have := (nI_leI (a := 144) (by decide) (by omega)).mp c42; omega
            subst hz
            exact K _ _ _ _ hR
          · have hn : n < 144 := by
              rcases Nat.lt_or_ge n 144 with q | q
              · exact q
              · exact absurd (nI_le (by omega) (by omega)) c42
            have KN : ∀ (M : hm_M) (ta : mm_S), mm_R cA sg ta ad mo M0 M → hm_W C 0 0 (hm_T C (mm_P cA ad mo M0 (sp_w (!decide (sp_paR sg (nI a) place = -1))) (sp_paR sg (nI a) place) sg) r_X6_pairAt.cells r_X6_pairAt.slots) M 104 [some (.ref mo), some (.int (nI a)), some (.int place), some (.int 1), some (.int (sp_pa sg a place (n + 1)).1), some (.int (sp_pa sg a place (n + 1)).2), some (.int (nI n))] [] := by
              intro M ta hR
              refine hr_iinc (1) X dX6_pairAt_104 rfl (by decide) ?_
              refine hr_goto 27 X dX6_pairAt_107 (by decide) ?_
              rw [mm_a1]
              exact ih (n + 1) _ _ hR (by omega) (by omega)
            refine hr_iload X dX6_pairAt_45 rfl ?_
            refine hr_bipush (12) X dX6_pairAt_47 (by decide) ?_
            refine hr_idiv X dX6_pairAt_49 (by decide) ?_
            refine hr_iload X dX6_pairAt_50 rfl ?_
            refine hr_bipush (12) X dX6_pairAt_52 (by decide) ?_
            refine hr_irem X dX6_pairAt_54 (by decide) ?_
            refine hr_icmp_ge 104 X dX6_pairAt_55 (by decide) (fun c55 => ?_) (fun c55 => ?_)
            · rw [mm_r12 (by omega), mm_d12 (by omega)] at c55
              have hge := (nI_leI (by omega) (by omega)).mp c55
              have hpk : sp_pk sg a n = false := by rw [sp_pk, decide_eq_false (by omega)]; rfl
              have hst : sp_pa sg a place (n + 1) = sp_pa sg a place n := by rw [sp_pa, if_pos c34, hpk]; rfl
              rw [← hst]
              exact KN _ _ hR
            · rw [mm_r12 (by omega), mm_d12 (by omega)] at c55
              have hlt : n / 12 < n % 12 := by
                rcases Nat.lt_or_ge (n / 12) (n % 12) with q | q
                · exact q
                · exact absurd (nI_le q (by omega)) c55
              refine hr_aload_n X dX6_pairAt_58 rfl (Or.inr ⟨_, rfl⟩) ?_
              refine hr_iload_n X dX6_pairAt_59 rfl ?_
              refine hr_iload X dX6_pairAt_60 rfl ?_
              refine hr_bipush (12) X dX6_pairAt_62 (by decide) ?_
              refine hr_idiv X dX6_pairAt_64 (by decide) ?_
              rw [mm_d12 (by omega)]
              refine hr_iload X dX6_pairAt_65 rfl ?_
              refine hr_bipush (12) X dX6_pairAt_67 (by decide) ?_
              refine hr_irem X dX6_pairAt_69 (by decide) ?_
              rw [mm_r12 (by omega)]
              refine hr_callV X kC6_230 dX6_pairAt_70 (c_X6_isPair cA hR hI a (n / 12) (n % 12) ha4 (by omega) (by omega)) hR.1 rfl rfl rfl rfl (Nat.le_of_ble_eq_true rfl) ⟨⟨(Nat.le_of_ble_eq_true rfl), (Nat.le_of_ble_eq_true rfl)⟩, (Nat.le_of_ble_eq_true rfl), (Nat.le_of_ble_eq_true rfl)⟩ (fun v M70 hp70 => ?_)
              obtain ⟨ta1, hR, rfl, hta1⟩ := hp70
              refine hr_if_eq 104 X dX6_pairAt_73 (by decide) (fun c73 => ?_) (fun c73 => ?_)
              · rw [hm_bI_eq] at c73
                have hpk : sp_pk sg a n = false := by rw [sp_pk, c73]; simp
                have hst : sp_pa sg a place (n + 1) = sp_pa sg a place n := by rw [sp_pa, if_pos c34, hpk]; rfl
                rw [← hst]
                exact KN _ _ hR
              · rw [hm_bI_ne] at c73
                have hpk : sp_pk sg a n = true := by rw [sp_pk, c73, decide_eq_true hlt]; rfl
                have hst : sp_pa sg a place (n + 1) = ((sp_pa sg a place n).1 + -1, if (sp_pa sg a place n).1 = 0 then nI (100 * (n / 12) + n % 12) else -1) := by rw [sp_pa, if_pos c34, if_pos hpk]
                have J99 : hm_W C (0 + r_X6_isPair.cells) (0 + r_X6_isPair.slots) (hm_T C (mm_P cA ad mo M0 (sp_w (!decide (sp_paR sg (nI a) place = -1))) (sp_paR sg (nI a) place) sg) r_X6_pairAt.cells r_X6_pairAt.slots) M70 99 [some (.ref mo), some (.int (nI a)), some (.int place), some (.int 1), some (.int (sp_pa sg a place n).1), some (.int (sp_pa sg a place n).2), some (.int (nI n))] [.int (if (sp_pa sg a place n).1 = 0 then nI (100 * (n / 12) + n % 12) else -1)] := by
                  refine hr_istore X dX6_pairAt_99 (Nat.le_of_ble_eq_true rfl) ?_
                  refine hr_iinc (-1) X dX6_pairAt_101 rfl (by decide) ?_
                  have hK := KN _ _ hR
                  rw [hst] at hK
                  exact hK
                refine hr_iload X dX6_pairAt_76 rfl ?_
                refine hr_if_ne 98 X dX6_pairAt_78 (by decide) (fun c78 => ?_) (fun c78 => ?_)
                · have hz : (if (sp_pa sg a place n).1 = 0 then nI (100 * (n / 12) + n % 12) else -1) = -1 := if_neg c78
                  refine hr_iconst (-1) X dX6_pairAt_98 (by decide) ?_
                  exact hr_eq (by rw [hz] <;> rfl) J99
                · have hz : (if (sp_pa sg a place n).1 = 0 then nI (100 * (n / 12) + n % 12) else -1) = 100 * (nI n / 12) + (nI n - nI n / 12 * 12) := by rw [if_pos c78, mm_r12 (by omega), mm_d12 (by omega), ← nI_add, ← nI_mul]; rfl
                  refine hr_bipush (100) X dX6_pairAt_81 (by decide) ?_
                  refine hr_iload X dX6_pairAt_83 rfl ?_
                  refine hr_bipush (12) X dX6_pairAt_85 (by decide) ?_
                  refine hr_idiv X dX6_pairAt_87 (by decide) ?_
                  refine hr_imul X dX6_pairAt_88 ?_
                  refine hr_iload X dX6_pairAt_89 rfl ?_
                  refine hr_bipush (12) X dX6_pairAt_91 (by decide) ?_
                  refine hr_irem X dX6_pairAt_93 (by decide) ?_
                  refine hr_iadd X dX6_pairAt_94 ?_
                  refine hr_goto 99 X dX6_pairAt_95 (by decide) ?_
                  exact hr_eq (by rw [hz] <;> rfl) J99
  exact lp27 145 0 _ _ hR (by decide) (by decide)
set_option maxHeartbeats 4000000 in
set_option maxRecDepth 100000 in
theorem c_X6_pairAt (cA : Nat → ClassId) {sg ta : mm_S} {ad : Nat → Nat} {mo : Nat} {M0 M : hm_M} (hR : mm_R cA sg ta ad mo M0 M) (hI : sp_I sg) (s place : Int32) : hm_Met cA yX6_pairAt cX6_pairAt 7 (some .int) r_X6_pairAt [.ref mo, .int s, .int place] M (mm_P cA ad mo M0 (sp_w (!decide (sp_paR sg s place = -1))) (sp_paR sg s place) (sg)) := by
  refine hm_met 4 (by decide +kernel) (fun w h => by simp only [List.mem_cons, List.not_mem_nil, or_false] at h; rcases h with rfl | rfl | rfl <;> rfl) rfl (fun C X => ?_)
  show hm_W C 0 0 _ M 0 [some (.ref mo), some (.int s), some (.int place), none, none, none, none] []
  have J17 : hm_W C 0 0 (hm_T C (mm_P cA ad mo M0 (sp_w (!decide (sp_paR sg s place = -1))) (sp_paR sg s place) (sg)) r_X6_pairAt.cells r_X6_pairAt.slots) M 17 [some (.ref mo), some (.int s), some (.int place), none, none, none, none] [.int (hm_bI (sp_isS sg s && !decide (place < 0)))] := by
    refine hr_istore_n X dX6_pairAt_17 (Nat.le_of_ble_eq_true rfl) ?_
    refine hr_iload_n X dX6_pairAt_18 rfl ?_
    refine hr_istore X dX6_pairAt_19 (Nat.le_of_ble_eq_true rfl) ?_
    refine hr_iconst (-1) X dX6_pairAt_21 (by decide) ?_
    refine hr_istore X dX6_pairAt_22 (Nat.le_of_ble_eq_true rfl) ?_
    refine hr_iconst (0) X dX6_pairAt_24 (by decide) ?_
    refine hr_istore X dX6_pairAt_25 (Nat.le_of_ble_eq_true rfl) ?_
    cases hb : (sp_isS sg s && !decide (place < 0)) with
    | false =>
      refine hr_iload_n X dX6_pairAt_27 rfl ?_
      refine hr_if_eq 110 X dX6_pairAt_28 (by decide) (fun _ => ?_) (fun c28 => absurd rfl c28)
      have hr9 : sp_paR sg s place = -1 := by rw [sp_paR, hb]; rfl
      rw [hr9]
      exact s_X6_pairAt_110 cA hR X (-1) _ _ _ _ _
    | true =>
      have hb2 := hb
      rw [Bool.and_eq_true] at hb2
      obtain ⟨a, ha, ha4, rfl⟩ := sp_isS_nat hI hb2.1
      have e1 : nN (nI a) = a := nI_clamp (by omega)
      have hr9 : sp_paR sg (nI a) place = (sp_pa sg a place 144).2 := by rw [sp_paR, if_pos hb, e1]
      exact s_X6_pairAt_27 (ta := ta) cA hI X a place ha4 (fun M ta y4 y6 hR => by rw [hr9]; exact s_X6_pairAt_110 cA hR X _ _ _ _ _ _) M ta hR
  refine hr_aload_n X dX6_pairAt_0 rfl (Or.inr ⟨_, rfl⟩) ?_
  refine hr_iload_n X dX6_pairAt_1 rfl ?_
  refine hr_callV X kC6_94 dX6_pairAt_2 (c_X6_isSheet cA hR s) hR.1 rfl rfl rfl rfl (Nat.le_of_ble_eq_true rfl) ⟨⟨(Nat.le_of_ble_eq_true rfl), (Nat.le_of_ble_eq_true rfl)⟩, (Nat.le_of_ble_eq_true rfl), (Nat.le_of_ble_eq_true rfl)⟩ (fun v M2 hp => ?_)
  obtain ⟨rfl, rfl⟩ := hp
  refine hr_if_eq 16 X dX6_pairAt_5 (by decide) (fun c5 => ?_) (fun c5 => ?_)
  · rw [hm_bI_eq] at c5
    have hz : (sp_isS sg s && !decide (place < 0)) = false := by simp [c5]
    refine hr_iconst (0) X dX6_pairAt_16 (by decide) ?_
    exact hr_eq (by rw [hz] <;> rfl) J17
  · rw [hm_bI_ne] at c5
    refine hr_iload_n X dX6_pairAt_8 rfl ?_
    refine hr_if_lt 16 X dX6_pairAt_9 (by decide) (fun c9 => ?_) (fun c9 => ?_)
    · have hz : (sp_isS sg s && !decide (place < 0)) = false := by simp [c9]
      refine hr_iconst (0) X dX6_pairAt_16 (by decide) ?_
      exact hr_eq (by rw [hz] <;> rfl) J17
    · have hz : (sp_isS sg s && !decide (place < 0)) = true := by simp [c5, c9]
      refine hr_iconst (1) X dX6_pairAt_12 (by decide) ?_
      refine hr_goto 17 X dX6_pairAt_13 (by decide) ?_
      exact hr_eq (by rw [hz] <;> rfl) J17
