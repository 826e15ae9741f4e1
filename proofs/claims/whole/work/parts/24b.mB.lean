set_option maxHeartbeats 4000000 in
set_option maxRecDepth 100000 in
theorem c_X6_refused (cA : Nat → ClassId) {sg ta : mm_S} {ad : Nat → Nat} {mo : Nat} {M0 M : hm_M} (hR : mm_R cA sg ta ad mo M0 M) (w : Int32) : hm_Met cA yX6_refused cX6_refused 2 (some .boolean) r_X6_refused [.ref mo, .int w] M (fun v M' => mm_R cA sg (mm_up ta 0 0 w) ad mo M0 M' ∧ v = some (.int (hm_bI (!decide (w = 0))))) := by
  refine hm_met 0 (by decide +kernel) (fun w h => by simp only [List.mem_cons, List.not_mem_nil, or_false] at h; rcases h with rfl | rfl <;> rfl) rfl (fun C X => ?_)
  show hm_W C 0 0 _ M 0 [some (.ref mo), some (.int w)] []
  refine hr_aload_n X dX6_refused_0 rfl (Or.inr ⟨_, rfl⟩) ?_
  refine hr_iload_n X dX6_refused_1 rfl ?_
  refine mm_putS0 X kF6_83 dX6_refused_2 hR (fun M2 hR => ?_)
  refine hr_iload_n X dX6_refused_5 rfl ?_
  refine hr_if_eq 13 X dX6_refused_6 (by decide) (fun c6 => ?_) (fun c6 => ?_)
  · refine hr_iconst (0) X dX6_refused_13 (by decide) ?_
    exact hr_zret X dX6_refused_14 (by rfl) (Nat.le_of_ble_eq_true rfl) (Nat.le_of_ble_eq_true rfl) ⟨hR, by simp [hm_bI, *]⟩
  · refine hr_iconst (1) X dX6_refused_9 (by decide) ?_
    refine hr_goto 14 X dX6_refused_10 (by decide) ?_
    exact hr_zret X dX6_refused_14 (by rfl) (Nat.le_of_ble_eq_true rfl) (Nat.le_of_ble_eq_true rfl) ⟨hR, by simp [hm_bI, *]⟩
set_option maxHeartbeats 4000000 in
set_option maxRecDepth 100000 in
theorem c_X6_sheets (cA : Nat → ClassId) {sg ta : mm_S} {ad : Nat → Nat} {mo : Nat} {M0 M : hm_M} (hR : mm_R cA sg ta ad mo M0 M)  : hm_Met cA yX6_sheets cX6_sheets 1 (some .int) r_X6_sheets [.ref mo] M (mm_P cA ad mo M0 (0) (sg 1 0) (sg)) := by
  refine hm_met 0 (by decide +kernel) (fun w h => by simp only [List.mem_cons, List.not_mem_nil, or_false] at h; rcases h with rfl <;> rfl) rfl (fun C X => ?_)
  show hm_W C 0 0 _ M 0 [some (.ref mo)] []
  refine hr_aload_n X dX6_sheets_0 rfl (Or.inr ⟨_, rfl⟩) ?_
  refine hr_iconst (0) X dX6_sheets_1 (by decide) ?_
  refine mm_putS0 X kF6_83 dX6_sheets_2 hR (fun M2 hR => ?_)
  refine hr_aload_n X dX6_sheets_5 rfl (Or.inr ⟨_, rfl⟩) ?_
  refine mm_getS X kF6_91 dX6_sheets_6 hR 1 rfl ?_
  exact hr_iret X dX6_sheets_9 (Nat.le_of_ble_eq_true rfl) (Nat.le_of_ble_eq_true rfl) ⟨_, _, hR, rfl, mm_up_s, fun _ => rfl⟩
set_option maxHeartbeats 4000000 in
set_option maxRecDepth 100000 in
theorem c_X6_addSheet (cA : Nat → ClassId) {sg ta : mm_S} {ad : Nat → Nat} {mo : Nat} {M0 M : hm_M} (hR : mm_R cA sg ta ad mo M0 M) (hI : sp_I sg) : hm_Met cA yX6_addSheet cX6_addSheet 1 (some .int) r_X6_addSheet [.ref mo] M (mm_P cA ad mo M0 (sp_w (!decide (sg 1 0 = 4))) (sg 1 0) (if sg 1 0 = 4 then sg else sp_addS sg)) := by
  refine hm_met 0 (by decide +kernel) (fun w h => by simp only [List.mem_cons, List.not_mem_nil, or_false] at h; rcases h with rfl <;> rfl) rfl (fun C X => ?_)
  show hm_W C 0 0 _ M 0 [some (.ref mo)] []
  obtain ⟨hn1, hn2⟩ := hI.i1
  refine hr_aload_n X dX6_addSheet_0 rfl (Or.inr ⟨_, rfl⟩) ?_
  have J14 : hm_W C 0 0 (hm_T C (mm_P cA ad mo M0 (sp_w (!decide (sg 1 0 = 4))) (sg 1 0) (if sg 1 0 = 4 then sg else sp_addS sg)) r_X6_addSheet.cells r_X6_addSheet.slots) M 14 [some (.ref mo)] [.int (sp_w (!decide (sg 1 0 = 4))), .ref mo] := by
    refine hr_callV X kC6_120 dX6_addSheet_14 (c_X6_refused cA hR (sp_w (!decide (sg 1 0 = 4)))) hR.1 rfl rfl rfl rfl (Nat.le_of_ble_eq_true rfl) ⟨⟨(Nat.le_of_ble_eq_true rfl), (Nat.le_of_ble_eq_true rfl)⟩, (Nat.le_of_ble_eq_true rfl), (Nat.le_of_ble_eq_true rfl)⟩ (fun v M14 hp14 => ?_)
    obtain ⟨hR, rfl⟩ := hp14
    refine hr_if_eq 22 X dX6_addSheet_17 (by decide) (fun c17 => ?_) (fun c17 => ?_)
    · rw [hm_bz, sp_w_0] at c17
      have h4 : ¬ sg 1 0 = 4 := by simpa using c17
      have hN : sp_n sg < 4 := by
        rcases Nat.lt_or_ge (sp_n sg) 4 with q | q
        · exact q
        · exact absurd (by rw [hn1, show sp_n sg = 4 by omega]; rfl) h4
      refine hr_aload_n X dX6_addSheet_22 rfl (Or.inr ⟨_, rfl⟩) ?_
      refine mm_getA X kF6_7 dX6_addSheet_23 hR 2 rfl ?_
      refine hr_bipush (16) X dX6_addSheet_26 (by decide) ?_
      refine hr_aload_n X dX6_addSheet_28 rfl (Or.inr ⟨_, rfl⟩) ?_
      refine mm_getS X kF6_91 dX6_addSheet_29 hR 1 rfl ?_
      refine hr_imul X dX6_addSheet_32 ?_
      refine hr_iconst (1) X dX6_addSheet_33 (by decide) ?_
      refine mm_zast (16 * sp_n sg) X dX6_addSheet_34 hR rfl (by show 16 * sg 1 0 = _; rw [hn1, mm_m16]) (by simp only [mm_len, sp_e]; omega) rfl (fun M34 hR => ?_)
      refine hr_aload_n X dX6_addSheet_35 rfl (Or.inr ⟨_, rfl⟩) ?_
      refine mm_getA X kF6_13 dX6_addSheet_36 hR 3 rfl ?_
      refine hr_bipush (16) X dX6_addSheet_39 (by decide) ?_
      refine hr_aload_n X dX6_addSheet_41 rfl (Or.inr ⟨_, rfl⟩) ?_
      refine mm_getS X kF6_91 dX6_addSheet_42 hR 1 rfl ?_
      refine hr_imul X dX6_addSheet_45 ?_
      refine hr_iconst (-1) X dX6_addSheet_46 (by decide) ?_
      refine mm_iast (16 * sp_n sg) X dX6_addSheet_47 hR rfl (by show 16 * sg 1 0 = _; rw [hn1, mm_m16]) (by simp only [mm_len, sp_e]; omega) (fun M47 hR => ?_)
      refine hr_aload_n X dX6_addSheet_48 rfl (Or.inr ⟨_, rfl⟩) ?_
      refine mm_getA X kF6_17 dX6_addSheet_49 hR 4 rfl ?_
      refine hr_bipush (16) X dX6_addSheet_52 (by decide) ?_
      refine hr_aload_n X dX6_addSheet_54 rfl (Or.inr ⟨_, rfl⟩) ?_
      refine mm_getS X kF6_91 dX6_addSheet_55 hR 1 rfl ?_
      refine hr_imul X dX6_addSheet_58 ?_
      refine hr_iconst (-1) X dX6_addSheet_59 (by decide) ?_
      refine mm_iast (16 * sp_n sg) X dX6_addSheet_60 hR rfl (by show 16 * sg 1 0 = _; rw [hn1, mm_m16]) (by simp only [mm_len, sp_e]; omega) (fun M60 hR => ?_)
      refine hr_aload_n X dX6_addSheet_61 rfl (Or.inr ⟨_, rfl⟩) ?_
      refine mm_getA X kF6_20 dX6_addSheet_62 hR 5 rfl ?_
      refine hr_aload_n X dX6_addSheet_65 rfl (Or.inr ⟨_, rfl⟩) ?_
      refine mm_getS X kF6_91 dX6_addSheet_66 hR 1 rfl ?_
      refine hr_iconst (1) X dX6_addSheet_69 (by decide) ?_
      refine mm_iast (sp_n sg) X dX6_addSheet_70 hR rfl (by show sg 1 0 = _; exact hn1) (by simp only [mm_len, sp_e]; omega) (fun M70 hR => ?_)
      refine hr_aload_n X dX6_addSheet_71 rfl (Or.inr ⟨_, rfl⟩) ?_
      refine hr_dup X dX6_addSheet_72 rfl ?_
      refine mm_getS X kF6_91 dX6_addSheet_73 hR 1 rfl ?_
      refine hr_iconst (1) X dX6_addSheet_76 (by decide) ?_
      refine hr_iadd X dX6_addSheet_77 ?_
      refine mm_putS1 X kF6_91 dX6_addSheet_78 hR (fun M78 hR => ?_)
      refine hr_aload_n X dX6_addSheet_81 rfl (Or.inr ⟨_, rfl⟩) ?_
      refine mm_getS X kF6_91 dX6_addSheet_82 hR 1 rfl ?_
      refine hr_iconst (1) X dX6_addSheet_85 (by decide) ?_
      refine hr_isub X dX6_addSheet_86 ?_
      exact hr_iret X dX6_addSheet_87 (Nat.le_of_ble_eq_true rfl) (Nat.le_of_ble_eq_true rfl) (by rw [if_neg h4]; exact ⟨_, _, hR, rfl, mm_up_s, fun _ => by show sg 1 0 + 1 - 1 = sg 1 0; exact Int32.add_sub_cancel _ _⟩)
    · rw [hm_bz, sp_w_0] at c17
      have h4 : sg 1 0 = 4 := by simpa using c17
      refine hr_iconst (0) X dX6_addSheet_20 (by decide) ?_
      exact hr_iret X dX6_addSheet_21 (Nat.le_of_ble_eq_true rfl) (Nat.le_of_ble_eq_true rfl) (by rw [if_pos h4]; exact ⟨_, _, hR, rfl, mm_up_s, fun q => absurd (sp_w_0.mp q) c17⟩)
  refine hr_aload_n X dX6_addSheet_1 rfl (Or.inr ⟨_, rfl⟩) ?_
  refine mm_getS X kF6_91 dX6_addSheet_2 hR 1 rfl ?_
  refine hr_iconst (4) X dX6_addSheet_5 (by decide) ?_
  refine hr_icmp_ne 13 X dX6_addSheet_6 (by decide) (fun c6 => ?_) (fun c6 => ?_)
  · have hz : sp_w (!decide (sg 1 0 = 4)) = 0 := by simp [sp_w, c6]
    refine hr_iconst (0) X dX6_addSheet_13 (by decide) ?_
    exact hr_eq (by rw [hz] <;> rfl) J14
  · have hz : sp_w (!decide (sg 1 0 = 4)) = 1 := by simp [sp_w, c6]
    refine hr_iconst (1) X dX6_addSheet_9 (by decide) ?_
    refine hr_goto 14 X dX6_addSheet_10 (by decide) ?_
    exact hr_eq (by rw [hz] <;> rfl) J14
set_option maxHeartbeats 4000000 in
set_option maxRecDepth 100000 in
theorem c_X6_revise (cA : Nat → ClassId) {sg ta : mm_S} {ad : Nat → Nat} {mo : Nat} {M0 M : hm_M} (hR : mm_R cA sg ta ad mo M0 M) (g s t m : Nat) (hg : g < 4) (hs : s < 4) (ht : t < 5) (hm : sg 5 s = nI m) (hm16 : m < 16) (kind pts rule slack : Int32) : hm_Met cA yX6_revise cX6_revise 11 (some .int) r_X6_revise [.ref mo, .int (nI g), .int (nI s), .int (nI t), .int kind, .int pts, .int rule, .int slack] M (fun v M' => mm_R cA (sp_rev sg g s t kind pts rule slack) ta ad mo M0 M' ∧ v = some (.int (sg 5 s))) := by
  refine hm_met 3 (by decide +kernel) (fun w h => by simp only [List.mem_cons, List.not_mem_nil, or_false] at h; rcases h with rfl | rfl | rfl | rfl | rfl | rfl | rfl | rfl <;> rfl) rfl (fun C X => ?_)
  show hm_W C 0 0 _ M 0 [some (.ref mo), some (.int (nI g)), some (.int (nI s)), some (.int (nI t)), some (.int kind), some (.int pts), some (.int rule), some (.int slack), none, none, none] []
  have ha : nN (sg 5 s) = m := by rw [hm]; exact nI_clamp (by omega)
  refine hr_aload_n X dX6_revise_0 rfl (Or.inr ⟨_, rfl⟩) ?_
  refine mm_getA X kF6_20 dX6_revise_1 hR 5 rfl ?_
  refine hr_iload_n X dX6_revise_4 rfl ?_
  refine mm_iald (s) X dX6_revise_5 hR rfl (by simp only [mm_m2, mm_m3, mm_m4, mm_m5, mm_m12, mm_m16, nI_add, mm_a1, mm_a2, mm_a3, mm_a5, mm_a12, sp_e]) (by simp only [mm_len, sp_e]; omega) ?_
  refine hr_istore X dX6_revise_6 (Nat.le_of_ble_eq_true rfl) ?_
  refine hr_bipush (16) X dX6_revise_8 (by decide) ?_
  refine hr_iload_n X dX6_revise_10 rfl ?_
  refine hr_imul X dX6_revise_11 ?_
  refine hr_iload X dX6_revise_12 rfl ?_
  refine hr_iadd X dX6_revise_14 ?_
  rw [show 16 * nI s + sg 5 s = nI (16 * s + m) by rw [hm, mm_m16, nI_add]]
  refine hr_istore X dX6_revise_15 (Nat.le_of_ble_eq_true rfl) ?_
  refine hr_aload_n X dX6_revise_17 rfl (Or.inr ⟨_, rfl⟩) ?_
  refine mm_getA X kF6_7 dX6_revise_18 hR 2 rfl ?_
  refine hr_iload X dX6_revise_21 rfl ?_
  refine hr_iconst (1) X dX6_revise_23 (by decide) ?_
  refine mm_zast (16 * s + m) X dX6_revise_24 hR rfl (by simp only [mm_m2, mm_m3, mm_m4, mm_m5, mm_m12, mm_m16, nI_add, mm_a1, mm_a2, mm_a3, mm_a5, mm_a12, sp_e]) (by simp only [mm_len, sp_e]; omega) rfl (fun M24 hR => ?_)
  refine hr_aload_n X dX6_revise_25 rfl (Or.inr ⟨_, rfl⟩) ?_
  refine mm_getA X kF6_13 dX6_revise_26 hR 3 rfl ?_
  refine hr_iload X dX6_revise_29 rfl ?_
  refine hr_aload_n X dX6_revise_31 rfl (Or.inr ⟨_, rfl⟩) ?_
  refine mm_getA X kF6_35 dX6_revise_32 hR 10 rfl ?_
  refine hr_iconst (4) X dX6_revise_35 (by decide) ?_
  refine hr_iload_n X dX6_revise_36 rfl ?_
  refine hr_imul X dX6_revise_37 ?_
  refine hr_iload_n X dX6_revise_38 rfl ?_
  refine hr_iadd X dX6_revise_39 ?_
  refine mm_iald (4 * s + g) X dX6_revise_40 hR rfl (by simp only [mm_m2, mm_m3, mm_m4, mm_m5, mm_m12, mm_m16, nI_add, mm_a1, mm_a2, mm_a3, mm_a5, mm_a12, sp_e]) (by simp only [mm_len, sp_e]; omega) ?_
  refine mm_iast (16 * s + m) X dX6_revise_41 hR rfl (by simp only [mm_m2, mm_m3, mm_m4, mm_m5, mm_m12, mm_m16, nI_add, mm_a1, mm_a2, mm_a3, mm_a5, mm_a12, sp_e]) (by simp only [mm_len, sp_e]; omega) (fun M41 hR => ?_)
  refine hr_aload_n X dX6_revise_42 rfl (Or.inr ⟨_, rfl⟩) ?_
  refine mm_getA X kF6_17 dX6_revise_43 hR 4 rfl ?_
  refine hr_iload X dX6_revise_46 rfl ?_
  refine hr_iload_n X dX6_revise_48 rfl ?_
  refine mm_iast (16 * s + m) X dX6_revise_49 hR rfl (by simp only [mm_m2, mm_m3, mm_m4, mm_m5, mm_m12, mm_m16, nI_add, mm_a1, mm_a2, mm_a3, mm_a5, mm_a12, sp_e]) (by simp only [mm_len, sp_e]; omega) (fun M49 hR => ?_)
  refine hr_aload_n X dX6_revise_50 rfl (Or.inr ⟨_, rfl⟩) ?_
  refine mm_getA X kF6_20 dX6_revise_51 hR 5 rfl ?_
  refine hr_iload_n X dX6_revise_54 rfl ?_
  refine hr_dup2 X dX6_revise_55 rfl rfl ?_
  refine mm_iald (s) X dX6_revise_56 hR rfl (by simp only [mm_m2, mm_m3, mm_m4, mm_m5, mm_m12, mm_m16, nI_add, mm_a1, mm_a2, mm_a3, mm_a5, mm_a12, sp_e]) (by simp only [mm_len, sp_e]; omega) ?_
  refine hr_iconst (1) X dX6_revise_57 (by decide) ?_
  refine hr_iadd X dX6_revise_58 ?_
  refine mm_iast (s) X dX6_revise_59 hR rfl (by simp only [mm_m2, mm_m3, mm_m4, mm_m5, mm_m12, mm_m16, nI_add, mm_a1, mm_a2, mm_a3, mm_a5, mm_a12, sp_e]) (by simp only [mm_len, sp_e]; omega) (fun M59 hR => ?_)
  refine hr_aload_n X dX6_revise_60 rfl (Or.inr ⟨_, rfl⟩) ?_
  refine mm_getA X kF6_35 dX6_revise_61 hR 10 rfl ?_
  refine hr_iconst (4) X dX6_revise_64 (by decide) ?_
  refine hr_iload_n X dX6_revise_65 rfl ?_
  refine hr_imul X dX6_revise_66 ?_
  refine hr_iload_n X dX6_revise_67 rfl ?_
  refine hr_iadd X dX6_revise_68 ?_
  refine hr_iload X dX6_revise_69 rfl ?_
  refine mm_iast (4 * s + g) X dX6_revise_71 hR rfl (by simp only [mm_m2, mm_m3, mm_m4, mm_m5, mm_m12, mm_m16, nI_add, mm_a1, mm_a2, mm_a3, mm_a5, mm_a12, sp_e]) (by simp only [mm_len, sp_e]; omega) (fun M71 hR => ?_)
  refine hr_iconst (5) X dX6_revise_72 (by decide) ?_
  refine hr_iload X dX6_revise_73 rfl ?_
  refine hr_imul X dX6_revise_75 ?_
  refine hr_iload_n X dX6_revise_76 rfl ?_
  refine hr_iadd X dX6_revise_77 ?_
  refine hr_istore X dX6_revise_78 (Nat.le_of_ble_eq_true rfl) ?_
  refine hr_aload_n X dX6_revise_80 rfl (Or.inr ⟨_, rfl⟩) ?_
  refine mm_getA X kF6_23 dX6_revise_81 hR 6 rfl ?_
  refine hr_iload X dX6_revise_84 rfl ?_
  refine hr_iload X dX6_revise_86 rfl ?_
  refine mm_iast (5 * (16 * s + m) + t) X dX6_revise_88 hR rfl (by simp only [mm_m2, mm_m3, mm_m4, mm_m5, mm_m12, mm_m16, nI_add, mm_a1, mm_a2, mm_a3, mm_a5, mm_a12, sp_e]) (by simp only [mm_len, sp_e]; omega) (fun M88 hR => ?_)
  refine hr_aload_n X dX6_revise_89 rfl (Or.inr ⟨_, rfl⟩) ?_
  refine mm_getA X kF6_26 dX6_revise_90 hR 7 rfl ?_
  refine hr_iload X dX6_revise_93 rfl ?_
  refine hr_iload X dX6_revise_95 rfl ?_
  refine mm_iast (5 * (16 * s + m) + t) X dX6_revise_97 hR rfl (by simp only [mm_m2, mm_m3, mm_m4, mm_m5, mm_m12, mm_m16, nI_add, mm_a1, mm_a2, mm_a3, mm_a5, mm_a12, sp_e]) (by simp only [mm_len, sp_e]; omega) (fun M97 hR => ?_)
  refine hr_aload_n X dX6_revise_98 rfl (Or.inr ⟨_, rfl⟩) ?_
  refine mm_getA X kF6_29 dX6_revise_99 hR 8 rfl ?_
  refine hr_iload X dX6_revise_102 rfl ?_
  refine hr_iload X dX6_revise_104 rfl ?_
  refine mm_iast (5 * (16 * s + m) + t) X dX6_revise_106 hR rfl (by simp only [mm_m2, mm_m3, mm_m4, mm_m5, mm_m12, mm_m16, nI_add, mm_a1, mm_a2, mm_a3, mm_a5, mm_a12, sp_e]) (by simp only [mm_len, sp_e]; omega) (fun M106 hR => ?_)
  refine hr_aload_n X dX6_revise_107 rfl (Or.inr ⟨_, rfl⟩) ?_
  refine mm_getA X kF6_32 dX6_revise_108 hR 9 rfl ?_
  refine hr_iload X dX6_revise_111 rfl ?_
  refine hr_iload X dX6_revise_113 rfl ?_
  refine mm_iast (5 * (16 * s + m) + t) X dX6_revise_115 hR rfl (by simp only [mm_m2, mm_m3, mm_m4, mm_m5, mm_m12, mm_m16, nI_add, mm_a1, mm_a2, mm_a3, mm_a5, mm_a12, sp_e]) (by simp only [mm_len, sp_e]; omega) (fun M115 hR => ?_)
  refine hr_iload X dX6_revise_116 rfl ?_
  exact hr_iret X dX6_revise_118 (Nat.le_of_ble_eq_true rfl) (Nat.le_of_ble_eq_true rfl) ⟨by rw [sp_rev, ha]; exact hR, rfl⟩
