set_option maxHeartbeats 4000000 in
set_option maxRecDepth 100000 in
theorem c_X6_isSaid (cA : Nat → ClassId) {M : hm_M} (kind said : Int32) : hm_Met cA yX6_isSaid cX6_isSaid 2 (some .boolean) r_X6_isSaid [.int kind, .int said] M (hm_pu (some (.int (hm_bI (sp_isSaid kind said)))) M) := by
  refine hm_met 0 (by decide +kernel) (fun w h => by simp only [List.mem_cons, List.not_mem_nil, or_false] at h; rcases h with rfl | rfl <;> rfl) rfl (fun C X => ?_)
  show hm_W C 0 0 _ M 0 [some (.int kind), some (.int said)] []
  refine hr_iload_n X dX6_isSaid_0 rfl ?_
  refine hr_if_ne 17 X dX6_isSaid_1 (by decide) (fun c1 => ?_) (fun c1 => ?_)
  · refine hr_iload_n X dX6_isSaid_17 rfl ?_
    refine hr_iconst (1) X dX6_isSaid_18 (by decide) ?_
    refine hr_icmp_ne 31 X dX6_isSaid_19 (by decide) (fun c19 => ?_) (fun c19 => ?_)
    · refine hr_iload_n X dX6_isSaid_31 rfl ?_
      refine hr_iconst (1) X dX6_isSaid_32 (by decide) ?_
      refine hr_bipush (31) X dX6_isSaid_33 (by decide) ?_
      refine hr_callS X kC6_87 dX6_isSaid_35 (c_X6_in cA (M := M) said 1 31) rfl rfl rfl (Nat.le_of_ble_eq_true rfl) ⟨⟨(Nat.le_of_ble_eq_true rfl), (Nat.le_of_ble_eq_true rfl)⟩, (Nat.le_of_ble_eq_true rfl), (Nat.le_of_ble_eq_true rfl)⟩ (fun v M35 hp => ?_)
      obtain ⟨rfl, rfl⟩ := hp
      exact hr_zret X dX6_isSaid_38 (hm_bIz _) (Nat.le_of_ble_eq_true rfl) (Nat.le_of_ble_eq_true rfl) ⟨by simp [sp_isSaid, *], rfl⟩
    · refine hr_iload_n X dX6_isSaid_22 rfl ?_
      refine hr_iconst (0) X dX6_isSaid_23 (by decide) ?_
      refine hr_iconst (4) X dX6_isSaid_24 (by decide) ?_
      refine hr_callS X kC6_87 dX6_isSaid_25 (c_X6_in cA (M := M) said 0 4) rfl rfl rfl (Nat.le_of_ble_eq_true rfl) ⟨⟨(Nat.le_of_ble_eq_true rfl), (Nat.le_of_ble_eq_true rfl)⟩, (Nat.le_of_ble_eq_true rfl), (Nat.le_of_ble_eq_true rfl)⟩ (fun v M25 hp => ?_)
      obtain ⟨rfl, rfl⟩ := hp
      refine hr_goto 38 X dX6_isSaid_28 (by decide) ?_
      exact hr_zret X dX6_isSaid_38 (hm_bIz _) (Nat.le_of_ble_eq_true rfl) (Nat.le_of_ble_eq_true rfl) ⟨by simp [sp_isSaid, *], rfl⟩
  · refine hr_iload_n X dX6_isSaid_4 rfl ?_
    refine hr_sipush (-1000) X dX6_isSaid_5 (by decide) ?_
    refine hr_sipush (1000) X dX6_isSaid_8 (by decide) ?_
    refine hr_callS X kC6_87 dX6_isSaid_11 (c_X6_in cA (M := M) said (-1000) 1000) rfl rfl rfl (Nat.le_of_ble_eq_true rfl) ⟨⟨(Nat.le_of_ble_eq_true rfl), (Nat.le_of_ble_eq_true rfl)⟩, (Nat.le_of_ble_eq_true rfl), (Nat.le_of_ble_eq_true rfl)⟩ (fun v M11 hp => ?_)
    obtain ⟨rfl, rfl⟩ := hp
    refine hr_goto 38 X dX6_isSaid_14 (by decide) ?_
    exact hr_zret X dX6_isSaid_38 (hm_bIz _) (Nat.le_of_ble_eq_true rfl) (Nat.le_of_ble_eq_true rfl) ⟨by simp [sp_isSaid, *], rfl⟩
set_option maxHeartbeats 4000000 in
set_option maxRecDepth 100000 in
theorem c_X6_more (cA : Nat → ClassId) {sg ta : mm_S} {ad : Nat → Nat} {mo : Nat} {M0 M : hm_M} (hR : mm_R cA sg ta ad mo M0 M) (kind said : Int32) (a : Nat) (ha : a < 240) : hm_Met cA yX6_more cX6_more 5 (some .int) r_X6_more [.ref mo, .int kind, .int (nI a), .int said] M (hm_pu (some (.int (sp_more sg kind a said))) M) := by
  refine hm_met 1 (by decide +kernel) (fun w h => by simp only [List.mem_cons, List.not_mem_nil, or_false] at h; rcases h with rfl | rfl | rfl | rfl <;> rfl) rfl (fun C X => ?_)
  show hm_W C 0 0 _ M 0 [some (.ref mo), some (.int kind), some (.int (nI a)), some (.int said), none] []
  refine hr_iload_n X dX6_more_0 rfl ?_
  refine hr_if_ne 19 X dX6_more_1 (by decide) (fun c1 => ?_) (fun c1 => ?_)
  · refine hr_iload_n X dX6_more_19 rfl ?_
    refine hr_iconst (1) X dX6_more_20 (by decide) ?_
    refine hr_icmp_ne 62 X dX6_more_21 (by decide) (fun c21 => ?_) (fun c21 => ?_)
    · refine hr_aload_n X dX6_more_62 rfl (Or.inr ⟨_, rfl⟩) ?_
      refine mm_getA X kF6_65 dX6_more_63 hR 20 rfl ?_
      refine hr_iload_n X dX6_more_66 rfl ?_
      refine mm_iald (a) X dX6_more_67 hR rfl rfl (by simp only [mm_len, sp_e]; omega) ?_
      refine hr_bipush (12) X dX6_more_68 (by decide) ?_
      refine hr_icmp_ne 78 X dX6_more_70 (by decide) (fun c70 => ?_) (fun c70 => ?_)
      · refine hr_iconst (1) X dX6_more_78 (by decide) ?_
        exact hr_iret X dX6_more_79 (Nat.le_of_ble_eq_true rfl) (Nat.le_of_ble_eq_true rfl) ⟨by simp [sp_more, *], rfl⟩
      · refine hr_bipush (99) X dX6_more_73 (by decide) ?_
        refine hr_goto 79 X dX6_more_75 (by decide) ?_
        exact hr_iret X dX6_more_79 (Nat.le_of_ble_eq_true rfl) (Nat.le_of_ble_eq_true rfl) ⟨by simp [sp_more, *], rfl⟩
    · refine hr_aload_n X dX6_more_24 rfl (Or.inr ⟨_, rfl⟩) ?_
      refine mm_getA X kF6_62 dX6_more_25 hR 19 rfl ?_
      refine hr_iload_n X dX6_more_28 rfl ?_
      refine mm_iald (a) X dX6_more_29 hR rfl rfl (by simp only [mm_len, sp_e]; omega) ?_
      refine hr_iconst (1) X dX6_more_30 (by decide) ?_
      refine hr_iload_n X dX6_more_31 rfl ?_
      refine hr_ishl X dX6_more_32 ?_
      refine hr_ixor X dX6_more_33 ?_
      refine hr_istore X dX6_more_34 (Nat.le_of_ble_eq_true rfl) ?_
      have J46 : hm_W C 0 0 (hm_T C (hm_pu (some (.int (sp_more sg kind a said))) M) r_X6_more.cells r_X6_more.slots) M 46 [some (.ref mo), some (.int kind), some (.int (nI a)), some (.int said), some (.int (sg 19 a ^^^ (1 <<< (said &&& 31))))] [.int (if sg 19 a ^^^ (1 <<< (said &&& 31)) = 0 then 0 else 1)] := by
        have J60 : hm_W C 0 0 (hm_T C (hm_pu (some (.int (sp_more sg kind a said))) M) r_X6_more.cells r_X6_more.slots) M 60 [some (.ref mo), some (.int kind), some (.int (nI a)), some (.int said), some (.int (sg 19 a ^^^ (1 <<< (said &&& 31))))] [.int (if sg 19 a = 0 then 0 else 1), .int (if sg 19 a ^^^ (1 <<< (said &&& 31)) = 0 then 0 else 1)] := by
          refine hr_isub X dX6_more_60 ?_
          exact hr_iret X dX6_more_61 (Nat.le_of_ble_eq_true rfl) (Nat.le_of_ble_eq_true rfl) ⟨by rw [sp_more, if_neg c1, if_pos c21], rfl⟩
        refine hr_aload_n X dX6_more_46 rfl (Or.inr ⟨_, rfl⟩) ?_
        refine mm_getA X kF6_62 dX6_more_47 hR 19 rfl ?_
        refine hr_iload_n X dX6_more_50 rfl ?_
        refine mm_iald (a) X dX6_more_51 hR rfl rfl (by simp only [mm_len, sp_e]; omega) ?_
        refine hr_if_ne 59 X dX6_more_52 (by decide) (fun c52 => ?_) (fun c52 => ?_)
        · refine hr_iconst (1) X dX6_more_59 (by decide) ?_
          exact hr_eq (by simp [c52]) J60
        · refine hr_iconst (0) X dX6_more_55 (by decide) ?_
          refine hr_goto 60 X dX6_more_56 (by decide) ?_
          exact hr_eq (by simp [c52]) J60
      refine hr_iload X dX6_more_36 rfl ?_
      refine hr_if_ne 45 X dX6_more_38 (by decide) (fun c38 => ?_) (fun c38 => ?_)
      · refine hr_iconst (1) X dX6_more_45 (by decide) ?_
        exact hr_eq (by simp [c38]) J46
      · refine hr_iconst (0) X dX6_more_41 (by decide) ?_
        refine hr_goto 46 X dX6_more_42 (by decide) ?_
        exact hr_eq (by simp [c38]) J46
  · refine hr_aload_n X dX6_more_4 rfl (Or.inr ⟨_, rfl⟩) ?_
    refine mm_getA X kF6_56 dX6_more_5 hR 17 rfl ?_
    refine hr_iload_n X dX6_more_8 rfl ?_
    refine mm_zald (a) X dX6_more_9 hR rfl rfl (by simp only [mm_len, sp_e]; omega) ?_
    refine hr_if_eq 17 X dX6_more_10 (by decide) (fun c10 => ?_) (fun c10 => ?_)
    · refine hr_iconst (1) X dX6_more_17 (by decide) ?_
      exact hr_iret X dX6_more_18 (Nat.le_of_ble_eq_true rfl) (Nat.le_of_ble_eq_true rfl) ⟨by simp [sp_more, *], rfl⟩
    · refine hr_iconst (0) X dX6_more_13 (by decide) ?_
      refine hr_goto 18 X dX6_more_14 (by decide) ?_
      exact hr_iret X dX6_more_18 (Nat.le_of_ble_eq_true rfl) (Nat.le_of_ble_eq_true rfl) ⟨by simp [sp_more, *], rfl⟩
set_option maxHeartbeats 4000000 in
set_option maxRecDepth 100000 in
theorem s_X6_say_n (cA : Nat → ClassId) {sg ta : mm_S} {ad : Nat → Nat} {mo : Nat} {M0 M : hm_M} (hR : mm_R cA sg ta ad mo M0 M) {C : hm_C} (X : hm_X C yX6_say.cls cX6_say 11 (some .int) yX6_say.name r_X6_say cA) (p s t said : Int32) (hb : sp_trip sg p s t = false) : hm_W C 0 0 (hm_T C (mm_P cA ad mo M0 (sp_thSay sg p s t said) (sp_taken (sp_sayN sg (nN p) (nN s) (nN t) said) (sp_k p s)) (if sp_thSay sg p s t said = 0 then sp_sayN sg (nN p) (nN s) (nN t) said else sg)) r_X6_say.cells r_X6_say.slots) M 21 [some (.ref mo), some (.int p), some (.int s), some (.int t), some (.int said), none, none, none, none, none, none] [.int 0] := by
  refine hr_istore X dX6_say_21 (Nat.le_of_ble_eq_true rfl) ?_
  refine hr_iload X dX6_say_23 rfl ?_
  refine hr_if_eq 37 X dX6_say_25 (by decide) (fun c25 => ?_) (fun c25 => ?_)
  · refine hr_iconst (0) X dX6_say_37 (by decide) ?_
    refine hr_istore X dX6_say_38 (Nat.le_of_ble_eq_true rfl) ?_
    refine hr_iload X dX6_say_40 rfl ?_
    refine hr_if_eq 72 X dX6_say_42 (by decide) (fun c42 => ?_) (fun c42 => ?_)
    · refine hr_iconst (-1) X dX6_say_72 (by decide) ?_
      refine hr_istore X dX6_say_73 (Nat.le_of_ble_eq_true rfl) ?_
      refine hr_iload X dX6_say_75 rfl ?_
      refine hr_iconst (-1) X dX6_say_77 (by decide) ?_
      refine hr_icmp_eq 96 X dX6_say_78 (by decide) (fun c78 => ?_) (fun c78 => ?_)
      · refine hr_iconst (1) X dX6_say_96 (by decide) ?_
        refine hr_goto 101 X dX6_say_97 (by decide) ?_
        refine hr_istore X dX6_say_101 (Nat.le_of_ble_eq_true rfl) ?_
        refine hr_iconst (5) X dX6_say_103 (by decide) ?_
        refine hr_iload X dX6_say_104 rfl ?_
        refine hr_imul X dX6_say_106 ?_
        refine hr_iload X dX6_say_107 rfl ?_
        refine hr_if_eq 116 X dX6_say_109 (by decide) (fun c109 => ?_) (fun c109 => ?_)
        · refine hr_iconst (0) X dX6_say_116 (by decide) ?_
          refine hr_iadd X dX6_say_117 ?_
          refine hr_istore X dX6_say_118 (Nat.le_of_ble_eq_true rfl) ?_
          refine hr_iload X dX6_say_120 rfl ?_
          refine hr_iconst (-1) X dX6_say_122 (by decide) ?_
          refine hr_icmp_eq 131 X dX6_say_123 (by decide) (fun c123 => ?_) (fun c123 => ?_)
          · refine hr_bipush (99) X dX6_say_131 (by decide) ?_
            refine hr_goto 151 X dX6_say_133 (by decide) ?_
            refine hr_istore X dX6_say_151 (Nat.le_of_ble_eq_true rfl) ?_
            refine hr_aload_n X dX6_say_153 rfl (Or.inr ⟨_, rfl⟩) ?_
            refine hr_iload X dX6_say_154 rfl ?_
            refine hr_if_ne 163 X dX6_say_156 (by decide) (fun c156 => ?_) (fun c156 => ?_)
            · exact absurd rfl c156
            · have hz : sp_thSay sg p s t said = 1 := by rw [sp_thSay, hb]; rfl
              refine hr_iconst (1) X dX6_say_159 (by decide) ?_
              refine hr_goto 196 X dX6_say_160 (by decide) ?_
              refine hr_callV X kC6_120 dX6_say_196 (c_X6_refused cA hR 1) hR.1 rfl rfl rfl rfl (Nat.le_of_ble_eq_true rfl) ⟨⟨(Nat.le_of_ble_eq_true rfl), (Nat.le_of_ble_eq_true rfl)⟩, (Nat.le_of_ble_eq_true rfl), (Nat.le_of_ble_eq_true rfl)⟩ (fun v M196 hp196 => ?_)
              obtain ⟨hR, rfl⟩ := hp196
              refine hr_if_eq 204 X dX6_say_199 (by decide) (fun c199 => ?_) (fun c199 => ?_)
              · rw [hm_bz] at c199; exact absurd c199 (by decide)
              · have hne : ¬ sp_thSay sg p s t said = 0 := by rw [hz]; decide
                rw [if_neg hne]
                refine hr_iconst (0) X dX6_say_202 (by decide) ?_
                exact hr_iret X dX6_say_203 (Nat.le_of_ble_eq_true rfl) (Nat.le_of_ble_eq_true rfl) ⟨_, _, hR, rfl, by rw [hz]; exact mm_up_s, fun q => absurd q hne⟩
          · exact absurd rfl c123
        · exact absurd rfl c109
      · exact absurd rfl c78
    · exact absurd rfl c42
  · exact absurd rfl c25
set_option maxHeartbeats 4000000 in
set_option maxRecDepth 100000 in
theorem s_X6_say_y (cA : Nat → ClassId) {sg ta : mm_S} {ad : Nat → Nat} {mo : Nat} {M0 M : hm_M} (hR : mm_R cA sg ta ad mo M0 M) {C : hm_C} (X : hm_X C yX6_say.cls cX6_say 11 (some .int) yX6_say.name r_X6_say cA) (p s t : Nat) (said : Int32) (hI : sp_I sg) (hp : p < 12) (hs : s < sp_n sg) (hs4 : s < 4) (ht : t < 5) : hm_W C 0 0 (hm_T C (mm_P cA ad mo M0 (sp_thSayN sg p s t said) (sp_taken (sp_sayN sg p s t said) (12 * s + p)) (if sp_thSayN sg p s t said = 0 then sp_sayN sg p s t said else sg)) r_X6_say.cells r_X6_say.slots) M 21 [some (.ref mo), some (.int (nI p)), some (.int (nI s)), some (.int (nI t)), some (.int said), none, none, none, none, none, none] [.int 1] := by
  refine hr_istore X dX6_say_21 (Nat.le_of_ble_eq_true rfl) ?_
  refine hr_iload X dX6_say_23 rfl ?_
  refine hr_if_eq 37 X dX6_say_25 (by decide) (fun c25 => ?_) (fun c25 => ?_)
  · exact absurd c25 (by decide)
  · refine hr_bipush (12) X dX6_say_28 (by decide) ?_
    refine hr_iload_n X dX6_say_30 rfl ?_
    refine hr_imul X dX6_say_31 ?_
    refine hr_iload_n X dX6_say_32 rfl ?_
    refine hr_iadd X dX6_say_33 ?_
    refine hr_goto 38 X dX6_say_34 (by decide) ?_
    rw [show (12 * nI s + nI p : Int32) = nI (12 * s + p) by rw [mm_m12, nI_add]]
    refine hr_istore X dX6_say_38 (Nat.le_of_ble_eq_true rfl) ?_
    have J73 : hm_W C 0 0 (hm_T C (mm_P cA ad mo M0 (sp_thSayN sg p s t said) (sp_taken (sp_sayN sg p s t said) (12 * s + p)) (if sp_thSayN sg p s t said = 0 then sp_sayN sg p s t said else sg)) r_X6_say.cells r_X6_say.slots) M 73 [some (.ref mo), some (.int (nI p)), some (.int (nI s)), some (.int (nI t)), some (.int said), some (.int 1), some (.int (nI (12 * s + p))), none, none, none, none] [.int (sp_o ((sp_ent sg (12 * s + p) t).map (fun u => sp_e s u t)))] := by
      refine hr_istore X dX6_say_73 (Nat.le_of_ble_eq_true rfl) ?_
      have J101 : hm_W C 0 0 (hm_T C (mm_P cA ad mo M0 (sp_thSayN sg p s t said) (sp_taken (sp_sayN sg p s t said) (12 * s + p)) (if sp_thSayN sg p s t said = 0 then sp_sayN sg p s t said else sg)) r_X6_say.cells r_X6_say.slots) M 101 [some (.ref mo), some (.int (nI p)), some (.int (nI s)), some (.int (nI t)), some (.int said), some (.int 1), some (.int (nI (12 * s + p))), some (.int (sp_o ((sp_ent sg (12 * s + p) t).map (fun u => sp_e s u t)))), none, none, none] [.int (hm_bI (match sp_ent sg (12 * s + p) t with | none => true | some u => sp_isSaid (sg 6 (sp_e s u t)) said))] := by
        refine hr_istore X dX6_say_101 (Nat.le_of_ble_eq_true rfl) ?_
        refine hr_iconst (5) X dX6_say_103 (by decide) ?_
        refine hr_iload X dX6_say_104 rfl ?_
        refine hr_imul X dX6_say_106 ?_
        refine hr_iload X dX6_say_107 rfl ?_
        refine hr_if_eq 116 X dX6_say_109 (by decide) (fun c109 => ?_) (fun c109 => ?_)
        · exact absurd c109 (by decide)
        · refine hr_iload_n X dX6_say_112 rfl ?_
          refine hr_goto 117 X dX6_say_113 (by decide) ?_
          refine hr_iadd X dX6_say_117 ?_
          rw [show (5 * nI (12 * s + p) + nI t : Int32) = nI (5 * (12 * s + p) + t) by rw [mm_m5, nI_add]]
          refine hr_istore X dX6_say_118 (Nat.le_of_ble_eq_true rfl) ?_
          have J151 : hm_W C 0 0 (hm_T C (mm_P cA ad mo M0 (sp_thSayN sg p s t said) (sp_taken (sp_sayN sg p s t said) (12 * s + p)) (if sp_thSayN sg p s t said = 0 then sp_sayN sg p s t said else sg)) r_X6_say.cells r_X6_say.slots) M 151 [some (.ref mo), some (.int (nI p)), some (.int (nI s)), some (.int (nI t)), some (.int said), some (.int 1), some (.int (nI (12 * s + p))), some (.int (sp_o ((sp_ent sg (12 * s + p) t).map (fun u => sp_e s u t)))), some (.int (hm_bI (match sp_ent sg (12 * s + p) t with | none => true | some u => sp_isSaid (sg 6 (sp_e s u t)) said))), some (.int (nI (5 * (12 * s + p) + t))), none] [.int (match sp_ent sg (12 * s + p) t with | none => (99 : Int32) | some u => if sp_isSaid (sg 6 (sp_e s u t)) said = true then sp_more sg (sg 6 (sp_e s u t)) (5 * (12 * s + p) + t) said else 99)] := by
            refine hr_istore X dX6_say_151 (Nat.le_of_ble_eq_true rfl) ?_
            have J196 : hm_W C 0 0 (hm_T C (mm_P cA ad mo M0 (sp_thSayN sg p s t said) (sp_taken (sp_sayN sg p s t said) (12 * s + p)) (if sp_thSayN sg p s t said = 0 then sp_sayN sg p s t said else sg)) r_X6_say.cells r_X6_say.slots) M 196 [some (.ref mo), some (.int (nI p)), some (.int (nI s)), some (.int (nI t)), some (.int said), some (.int 1), some (.int (nI (12 * s + p))), some (.int (sp_o ((sp_ent sg (12 * s + p) t).map (fun u => sp_e s u t)))), some (.int (hm_bI (match sp_ent sg (12 * s + p) t with | none => true | some u => sp_isSaid (sg 6 (sp_e s u t)) said))), some (.int (nI (5 * (12 * s + p) + t))), some (.int (match sp_ent sg (12 * s + p) t with | none => (99 : Int32) | some u => if sp_isSaid (sg 6 (sp_e s u t)) said = true then sp_more sg (sg 6 (sp_e s u t)) (5 * (12 * s + p) + t) said else 99))] [.int (sp_thSayN sg p s t said), .ref mo] := by
              refine hr_callV X kC6_120 dX6_say_196 (c_X6_refused cA hR (sp_thSayN sg p s t said)) hR.1 rfl rfl rfl rfl (Nat.le_of_ble_eq_true rfl) ⟨⟨(Nat.le_of_ble_eq_true rfl), (Nat.le_of_ble_eq_true rfl)⟩, (Nat.le_of_ble_eq_true rfl), (Nat.le_of_ble_eq_true rfl)⟩ (fun v M196 hp196 => ?_)
              obtain ⟨hR, rfl⟩ := hp196
              refine hr_if_eq 204 X dX6_say_199 (by decide) (fun c199 => ?_) (fun c199 => ?_)
              · rw [hm_bz] at c199
                rw [if_pos c199]
                obtain ⟨u, hq⟩ : ∃ u, sp_ent sg (12 * s + p) t = some u := by
                  cases hq : sp_ent sg (12 * s + p) t with
                  | none => rw [sp_thSayN, hq] at c199; exact absurd (show (3 : Int32) = 0 from c199) (by decide)
                  | some u => exact ⟨u, rfl⟩
                obtain ⟨h13, -, v, hv, hvt, hhas⟩ := sp_ent_some hI hs4 hp hq
                have hhs := sp_has_some hI hs hvt hhas
                have hu16 := hhs.1.1
                have he : sp_e s u t < 320 := by simp only [sp_e]; omega
                have hE : (sp_o ((sp_ent sg (12 * s + p) t).map (fun u => sp_e s u t))) = nI (sp_e s u t) := by rw [hq]; rfl
                have hk := sp_k012 hI hs4 hu16 ht hhs.2.2.1 hhs.2.2.2
                have hst : sp_sayN sg p s t said = sp_sayU sg (sg 6 (sp_e s u t)) (5 * (12 * s + p) + t) said := by rw [sp_sayN, hq]
                obtain ⟨-, -, ⟨wc, hwc, hw⟩, -⟩ := hI.i12 (5 * (12 * s + p) + t) (by omega)
                have ew : nN (sg 20 (5 * (12 * s + p) + t)) = wc := by rw [hw]; exact nI_clamp (by omega)
                have hlt : sg 6 (sp_e s u t) = 2 → wc < 12 := fun h2 => by
                  rcases Nat.lt_or_ge wc 12 with q | q
                  · exact q
                  · have h12 : sg 20 (5 * (12 * s + p) + t) = 12 := by rw [hw, show wc = 12 by omega]; rfl
                    have hm : sp_more sg (sg 6 (sp_e s u t)) (5 * (12 * s + p) + t) said = 99 := by rw [h2, sp_more, if_neg (by decide), if_neg (by decide), if_pos h12]
                    have hf : sp_sayB sg p s t u said = false := by rw [sp_sayB, hm]; rfl
                    rw [sp_thSayN, hq] at c199
                    replace c199 : (if sp_isSaid (sg 6 (sp_e s u t)) said = true then (if sp_sayB sg p s t u said = true then 0 else 3) else 2) = (0 : Int32) := c199
                    rw [hf] at c199
                    by_cases hsd : sp_isSaid (sg 6 (sp_e s u t)) said = true
                    · rw [if_pos hsd] at c199; exact absurd c199 (by decide)
                    · rw [if_neg hsd] at c199; exact absurd c199 (by decide)
                have J293 : ∀ (M : hm_M), mm_R cA (sp_sayN sg p s t said) (mm_up ta 0 0 (sp_thSayN sg p s t said)) ad mo M0 M → hm_W C (0 + r_X6_refused.cells) (0 + r_X6_refused.slots) (hm_T C (mm_P cA ad mo M0 (sp_thSayN sg p s t said) (sp_taken (sp_sayN sg p s t said) (12 * s + p)) (sp_sayN sg p s t said)) r_X6_say.cells r_X6_say.slots) M 293 [some (.ref mo), some (.int (nI p)), some (.int (nI s)), some (.int (nI t)), some (.int said), some (.int 1), some (.int (nI (12 * s + p))), some (.int (sp_o ((sp_ent sg (12 * s + p) t).map (fun u => sp_e s u t)))), some (.int (hm_bI (match sp_ent sg (12 * s + p) t with | none => true | some u => sp_isSaid (sg 6 (sp_e s u t)) said))), some (.int (nI (5 * (12 * s + p) + t))), some (.int (match sp_ent sg (12 * s + p) t with | none => (99 : Int32) | some u => if sp_isSaid (sg 6 (sp_e s u t)) said = true then sp_more sg (sg 6 (sp_e s u t)) (5 * (12 * s + p) + t) said else 99))] [] := by
                  intro M hR
                  refine hr_aload_n X dX6_say_293 rfl (Or.inr ⟨_, rfl⟩) ?_
                  refine hr_iload X dX6_say_294 rfl ?_
                  refine hr_callV X kC6_114 dX6_say_296 (c_X6_taken cA hR (12 * s + p) (by omega)) hR.1 rfl rfl rfl rfl (Nat.le_of_ble_eq_true rfl) ⟨⟨(Nat.le_of_ble_eq_true rfl), (Nat.le_of_ble_eq_true rfl)⟩, (Nat.le_of_ble_eq_true rfl), (Nat.le_of_ble_eq_true rfl)⟩ (fun v M296 hp => ?_)
                  obtain ⟨rfl, rfl⟩ := hp
                  exact hr_iret X dX6_say_299 (Nat.le_of_ble_eq_true rfl) (Nat.le_of_ble_eq_true rfl) ⟨_, _, hR, rfl, mm_up_s, fun _ => rfl⟩
                refine hr_aload_n X dX6_say_204 rfl (Or.inr ⟨_, rfl⟩) ?_
                refine mm_getA X kF6_23 dX6_say_205 hR 6 rfl ?_
                refine hr_iload X dX6_say_208 rfl ?_
                refine mm_iald (sp_e s u t) X dX6_say_210 hR rfl hE (by simp only [mm_len, sp_e]; omega) ?_
                refine hr_if_ne 234 X dX6_say_211 (by decide) (fun c211 => ?_) (fun c211 => ?_)
                · refine hr_aload_n X dX6_say_234 rfl (Or.inr ⟨_, rfl⟩) ?_
                  refine mm_getA X kF6_23 dX6_say_235 hR 6 rfl ?_
                  refine hr_iload X dX6_say_238 rfl ?_
                  refine mm_iald (sp_e s u t) X dX6_say_240 hR rfl hE (by simp only [mm_len, sp_e]; omega) ?_
                  refine hr_iconst (1) X dX6_say_241 (by decide) ?_
                  refine hr_icmp_ne 262 X dX6_say_242 (by decide) (fun c242 => ?_) (fun c242 => ?_)
                  · have h2 : sg 6 (sp_e s u t) = 2 := by
                      rcases hk with q | q | q
                      · exact absurd q c211
                      · exact absurd q c242
                      · exact q
                    have hw12 := hlt h2
                    have hsu : sp_sayU sg (sg 6 (sp_e s u t)) (5 * (12 * s + p) + t) said = mm_up (mm_up sg 21 (12 * (5 * (12 * s + p) + t) + wc) said) 20 (5 * (12 * s + p) + t) (sg 20 (5 * (12 * s + p) + t) + 1) := by rw [sp_sayU, if_neg c211, if_neg c242, ew]
                    refine hr_aload_n X dX6_say_262 rfl (Or.inr ⟨_, rfl⟩) ?_
                    refine mm_getA X kF6_68 dX6_say_263 hR 21 rfl ?_
                    refine hr_bipush (12) X dX6_say_266 (by decide) ?_
                    refine hr_iload X dX6_say_268 rfl ?_
                    refine hr_imul X dX6_say_270 ?_
                    refine hr_aload_n X dX6_say_271 rfl (Or.inr ⟨_, rfl⟩) ?_
                    refine mm_getA X kF6_65 dX6_say_272 hR 20 rfl ?_
                    refine hr_iload X dX6_say_275 rfl ?_
                    refine mm_iald (5 * (12 * s + p) + t) X dX6_say_277 hR rfl rfl (by simp only [mm_len, sp_e]; omega) ?_
                    refine hr_iadd X dX6_say_278 ?_
                    refine hr_iload X dX6_say_279 rfl ?_
                    refine mm_iast (12 * (5 * (12 * s + p) + t) + wc) X dX6_say_281 hR rfl (by rw [hw, mm_m12, nI_add]) (by simp only [mm_len, sp_e]; omega) (fun M281 hR => ?_)
                    refine hr_aload_n X dX6_say_282 rfl (Or.inr ⟨_, rfl⟩) ?_
                    refine mm_getA X kF6_65 dX6_say_283 hR 20 rfl ?_
                    refine hr_iload X dX6_say_286 rfl ?_
                    refine hr_dup2 X dX6_say_288 rfl rfl ?_
                    refine mm_iald (5 * (12 * s + p) + t) X dX6_say_289 hR rfl rfl (by simp only [mm_len, sp_e]; omega) ?_
                    refine hr_iconst (1) X dX6_say_290 (by decide) ?_
                    refine hr_iadd X dX6_say_291 ?_
                    refine mm_iast (5 * (12 * s + p) + t) X dX6_say_292 hR rfl rfl (by simp only [mm_len, sp_e]; omega) (fun M292 hR => ?_)
                    exact J293 _ (by rw [hst, hsu]; exact hR)
                  · have hsu : sp_sayU sg (sg 6 (sp_e s u t)) (5 * (12 * s + p) + t) said = mm_up sg 19 (5 * (12 * s + p) + t) (sg 19 (5 * (12 * s + p) + t) ^^^ (1 <<< (said &&& 31))) := by rw [sp_sayU, if_neg c211, if_pos c242]
                    refine hr_aload_n X dX6_say_245 rfl (Or.inr ⟨_, rfl⟩) ?_
                    refine mm_getA X kF6_62 dX6_say_246 hR 19 rfl ?_
                    refine hr_iload X dX6_say_249 rfl ?_
                    refine hr_dup2 X dX6_say_251 rfl rfl ?_
                    refine mm_iald (5 * (12 * s + p) + t) X dX6_say_252 hR rfl rfl (by simp only [mm_len, sp_e]; omega) ?_
                    refine hr_iconst (1) X dX6_say_253 (by decide) ?_
                    refine hr_iload X dX6_say_254 rfl ?_
                    refine hr_ishl X dX6_say_256 ?_
                    refine hr_ixor X dX6_say_257 ?_
                    refine mm_iast (5 * (12 * s + p) + t) X dX6_say_258 hR rfl rfl (by simp only [mm_len, sp_e]; omega) (fun M258 hR => ?_)
                    refine hr_goto 293 X dX6_say_259 (by decide) ?_
                    exact J293 _ (by rw [hst, hsu]; exact hR)
                · have hsu : sp_sayU sg (sg 6 (sp_e s u t)) (5 * (12 * s + p) + t) said = mm_up (mm_up sg 17 (5 * (12 * s + p) + t) 1) 18 (5 * (12 * s + p) + t) said := by rw [sp_sayU, if_pos c211]
                  refine hr_aload_n X dX6_say_214 rfl (Or.inr ⟨_, rfl⟩) ?_
                  refine mm_getA X kF6_56 dX6_say_215 hR 17 rfl ?_
                  refine hr_iload X dX6_say_218 rfl ?_
                  refine hr_iconst (1) X dX6_say_220 (by decide) ?_
                  refine mm_zast (5 * (12 * s + p) + t) X dX6_say_221 hR rfl rfl (by simp only [mm_len, sp_e]; omega) rfl (fun M221 hR => ?_)
                  refine hr_aload_n X dX6_say_222 rfl (Or.inr ⟨_, rfl⟩) ?_
                  refine mm_getA X kF6_59 dX6_say_223 hR 18 rfl ?_
                  refine hr_iload X dX6_say_226 rfl ?_
                  refine hr_iload X dX6_say_228 rfl ?_
                  refine mm_iast (5 * (12 * s + p) + t) X dX6_say_230 hR rfl rfl (by simp only [mm_len, sp_e]; omega) (fun M230 hR => ?_)
                  refine hr_goto 293 X dX6_say_231 (by decide) ?_
                  exact J293 _ (by rw [hst, hsu]; exact hR)
              · rw [hm_bz] at c199
                rw [if_neg c199]
                refine hr_iconst (0) X dX6_say_202 (by decide) ?_
                exact hr_iret X dX6_say_203 (Nat.le_of_ble_eq_true rfl) (Nat.le_of_ble_eq_true rfl) ⟨_, _, hR, rfl, mm_up_s, fun q => absurd q c199⟩
            refine hr_aload_n X dX6_say_153 rfl (Or.inr ⟨_, rfl⟩) ?_
            refine hr_iload X dX6_say_154 rfl ?_
            refine hr_if_ne 163 X dX6_say_156 (by decide) (fun c156 => ?_) (fun c156 => ?_)
            · refine hr_iload X dX6_say_163 rfl ?_
              refine hr_if_ne 172 X dX6_say_165 (by decide) (fun c165 => ?_) (fun c165 => ?_)
              · rw [hm_bI_ne] at c165
                refine hr_iload X dX6_say_172 rfl ?_
                refine hr_bipush (99) X dX6_say_174 (by decide) ?_
                refine hr_icmp_eq 195 X dX6_say_176 (by decide) (fun c176 => ?_) (fun c176 => ?_)
                · have hz : sp_thSayN sg p s t said = 3 := by
                    cases hq : sp_ent sg (12 * s + p) t with
                    | none => rw [sp_thSayN, hq]
                    | some u =>
                      rw [hq] at c165 c176
                      replace c165 : sp_isSaid (sg 6 (sp_e s u t)) said = true := c165
                      replace c176 : (if sp_isSaid (sg 6 (sp_e s u t)) said = true then sp_more sg (sg 6 (sp_e s u t)) (5 * (12 * s + p) + t) said else 99) = 99 := c176
                      rw [if_pos c165] at c176
                      rw [sp_thSayN, hq]
                      show (if sp_isSaid (sg 6 (sp_e s u t)) said = true then (if sp_sayB sg p s t u said = true then 0 else 3) else 2) = (3 : Int32)
                      rw [if_pos c165, if_neg]
                      rw [sp_sayB, c176]
                      simp
                  refine hr_iconst (3) X dX6_say_195 (by decide) ?_
                  exact hr_eq (by rw [hz] <;> rfl) J196
                · obtain ⟨u, hq⟩ : ∃ u, sp_ent sg (12 * s + p) t = some u := by
                    cases hq : sp_ent sg (12 * s + p) t with
                    | none => rw [hq] at c176; exact absurd rfl c176
                    | some u => exact ⟨u, rfl⟩
                  rw [hq] at c165
                  replace c165 : sp_isSaid (sg 6 (sp_e s u t)) said = true := c165
                  have hMo : (match sp_ent sg (12 * s + p) t with | none => (99 : Int32) | some u => if sp_isSaid (sg 6 (sp_e s u t)) said = true then sp_more sg (sg 6 (sp_e s u t)) (5 * (12 * s + p) + t) said else 99) = sp_more sg (sg 6 (sp_e s u t)) (5 * (12 * s + p) + t) said := by rw [hq]; exact if_pos c165
                  rw [hMo] at c176
                  refine hr_aload_n X dX6_say_179 rfl (Or.inr ⟨_, rfl⟩) ?_
                  refine hr_iload_n X dX6_say_180 rfl ?_
                  refine hr_iconst (3) X dX6_say_181 (by decide) ?_
                  refine hr_idiv X dX6_say_182 (by decide) ?_
                  rw [mm_d3 (by omega)]
                  refine hr_iload X dX6_say_183 rfl ?_
                  refine hr_callV X kC6_123 dX6_say_185 (c_X6_fits cA hR (p / 3) (by omega) (match sp_ent sg (12 * s + p) t with | none => (99 : Int32) | some u => if sp_isSaid (sg 6 (sp_e s u t)) said = true then sp_more sg (sg 6 (sp_e s u t)) (5 * (12 * s + p) + t) said else 99)) hR.1 rfl rfl rfl rfl (Nat.le_of_ble_eq_true rfl) ⟨⟨(Nat.le_of_ble_eq_true rfl), (Nat.le_of_ble_eq_true rfl)⟩, (Nat.le_of_ble_eq_true rfl), (Nat.le_of_ble_eq_true rfl)⟩ (fun v M185 hp => ?_)
                  obtain ⟨rfl, rfl⟩ := hp
                  refine hr_if_eq 195 X dX6_say_188 (by decide) (fun c188 => ?_) (fun c188 => ?_)
                  · rw [hm_bI_eq] at c188
                    rw [hMo] at c188
                    have hz : sp_thSayN sg p s t said = 3 := by rw [sp_thSayN, hq]; show (if sp_isSaid (sg 6 (sp_e s u t)) said = true then (if sp_sayB sg p s t u said = true then 0 else 3) else 2) = (3 : Int32); rw [if_pos c165, if_neg (by rw [sp_sayB, c188]; simp)]
                    refine hr_iconst (3) X dX6_say_195 (by decide) ?_
                    exact hr_eq (by rw [hz] <;> rfl) J196
                  · rw [hm_bI_ne] at c188
                    rw [hMo] at c188
                    have hz : sp_thSayN sg p s t said = 0 := by rw [sp_thSayN, hq]; show (if sp_isSaid (sg 6 (sp_e s u t)) said = true then (if sp_sayB sg p s t u said = true then 0 else 3) else 2) = (0 : Int32); rw [if_pos c165, if_pos (by rw [sp_sayB, c188]; simp [c176])]
                    refine hr_iconst (0) X dX6_say_191 (by decide) ?_
                    refine hr_goto 196 X dX6_say_192 (by decide) ?_
                    exact hr_eq (by rw [hz] <;> rfl) J196
              · rw [hm_bI_eq] at c165
                obtain ⟨u, hq, hsd⟩ : ∃ u, sp_ent sg (12 * s + p) t = some u ∧ sp_isSaid (sg 6 (sp_e s u t)) said = false := by
                  cases hq : sp_ent sg (12 * s + p) t with
                  | none => rw [hq] at c165; exact absurd (show true = false from c165) (by decide)
                  | some u => rw [hq] at c165; exact ⟨u, rfl, c165⟩
                have hz : sp_thSayN sg p s t said = 2 := by rw [sp_thSayN, hq]; exact if_neg (by rw [hsd]; decide)
                refine hr_iconst (2) X dX6_say_168 (by decide) ?_
                refine hr_goto 196 X dX6_say_169 (by decide) ?_
                exact hr_eq (by rw [hz] <;> rfl) J196
            · exact absurd c156 (by decide)
          refine hr_iload X dX6_say_120 rfl ?_
          refine hr_iconst (-1) X dX6_say_122 (by decide) ?_
          refine hr_icmp_eq 131 X dX6_say_123 (by decide) (fun c123 => ?_) (fun c123 => ?_)
          · have hq : sp_ent sg (12 * s + p) t = none := Option.map_eq_none_iff.mp (sp_o_none (fun u h => by
              obtain ⟨w, h1, rfl⟩ := Option.map_eq_some_iff.mp h
              obtain ⟨-, q1, v, -, q2, q3⟩ := sp_ent_some hI hs4 hp h1
              have := (sp_has_some hI q1 q2 q3).1.1
              simp only [sp_e]
              omega) c123)
            have hz : (match sp_ent sg (12 * s + p) t with | none => (99 : Int32) | some u => if sp_isSaid (sg 6 (sp_e s u t)) said = true then sp_more sg (sg 6 (sp_e s u t)) (5 * (12 * s + p) + t) said else 99) = 99 := by rw [hq]
            refine hr_bipush (99) X dX6_say_131 (by decide) ?_
            refine hr_goto 151 X dX6_say_133 (by decide) ?_
            exact hr_eq (by rw [hz] <;> rfl) J151
          · obtain ⟨w, hw⟩ := sp_o_some c123
            obtain ⟨u, hq, -⟩ := Option.map_eq_some_iff.mp hw
            obtain ⟨h13, -, v, hv, hvt, hhas⟩ := sp_ent_some hI hs4 hp hq
            have hhs := sp_has_some hI hs hvt hhas
            have hu16 := hhs.1.1
            have he : sp_e s u t < 320 := by simp only [sp_e]; omega
            have hE : (sp_o ((sp_ent sg (12 * s + p) t).map (fun u => sp_e s u t))) = nI (sp_e s u t) := by rw [hq]; rfl
            have hk := sp_k012 hI hs4 hu16 ht hhs.2.2.1 hhs.2.2.2
            refine hr_iload X dX6_say_126 rfl ?_
            refine hr_if_ne 136 X dX6_say_128 (by decide) (fun c128 => ?_) (fun c128 => ?_)
            · rw [hm_bI_ne] at c128
              rw [hq] at c128
              have hz : (match sp_ent sg (12 * s + p) t with | none => (99 : Int32) | some u => if sp_isSaid (sg 6 (sp_e s u t)) said = true then sp_more sg (sg 6 (sp_e s u t)) (5 * (12 * s + p) + t) said else 99) = sp_more sg (sg 6 (sp_e s u t)) (5 * (12 * s + p) + t) said := by rw [hq]; exact if_pos c128
              refine hr_aload_n X dX6_say_136 rfl (Or.inr ⟨_, rfl⟩) ?_
              refine hr_aload_n X dX6_say_137 rfl (Or.inr ⟨_, rfl⟩) ?_
              refine mm_getA X kF6_23 dX6_say_138 hR 6 rfl ?_
              refine hr_iload X dX6_say_141 rfl ?_
              refine mm_iald (sp_e s u t) X dX6_say_143 hR rfl hE (by simp only [mm_len, sp_e]; omega) ?_
              refine hr_iload X dX6_say_144 rfl ?_
              refine hr_iload X dX6_say_146 rfl ?_
              refine hr_callV X kC6_202 dX6_say_148 (c_X6_more cA hR (sg 6 (sp_e s u t)) said (5 * (12 * s + p) + t) (by omega)) hR.1 rfl rfl rfl rfl (Nat.le_of_ble_eq_true rfl) ⟨⟨(Nat.le_of_ble_eq_true rfl), (Nat.le_of_ble_eq_true rfl)⟩, (Nat.le_of_ble_eq_true rfl), (Nat.le_of_ble_eq_true rfl)⟩ (fun v M148 hp => ?_)
              obtain ⟨rfl, rfl⟩ := hp
              exact hr_eq (by rw [hz] <;> rfl) J151
            · rw [hm_bI_eq] at c128
              rw [hq] at c128
              replace c128 : sp_isSaid (sg 6 (sp_e s u t)) said = false := c128
              have hz : (match sp_ent sg (12 * s + p) t with | none => (99 : Int32) | some u => if sp_isSaid (sg 6 (sp_e s u t)) said = true then sp_more sg (sg 6 (sp_e s u t)) (5 * (12 * s + p) + t) said else 99) = 99 := by rw [hq]; exact if_neg (by rw [c128]; decide)
              refine hr_bipush (99) X dX6_say_131 (by decide) ?_
              refine hr_goto 151 X dX6_say_133 (by decide) ?_
              exact hr_eq (by rw [hz] <;> rfl) J151
      refine hr_iload X dX6_say_75 rfl ?_
      refine hr_iconst (-1) X dX6_say_77 (by decide) ?_
      refine hr_icmp_eq 96 X dX6_say_78 (by decide) (fun c78 => ?_) (fun c78 => ?_)
      · have hq : sp_ent sg (12 * s + p) t = none := Option.map_eq_none_iff.mp (sp_o_none (fun u h => by
          obtain ⟨w, h1, rfl⟩ := Option.map_eq_some_iff.mp h
          obtain ⟨-, q1, v, -, q2, q3⟩ := sp_ent_some hI hs4 hp h1
          have := (sp_has_some hI q1 q2 q3).1.1
          simp only [sp_e]
          omega) c78)
        have hz : (match sp_ent sg (12 * s + p) t with | none => true | some u => sp_isSaid (sg 6 (sp_e s u t)) said) = true := by rw [hq]
        refine hr_iconst (1) X dX6_say_96 (by decide) ?_
        refine hr_goto 101 X dX6_say_97 (by decide) ?_
        exact hr_eq (by rw [hz] <;> rfl) J101
      · obtain ⟨w, hw⟩ := sp_o_some c78
        obtain ⟨u, hq, -⟩ := Option.map_eq_some_iff.mp hw
        obtain ⟨h13, -, v, hv, hvt, hhas⟩ := sp_ent_some hI hs4 hp hq
        have hhs := sp_has_some hI hs hvt hhas
        have hu16 := hhs.1.1
        have he : sp_e s u t < 320 := by simp only [sp_e]; omega
        have hE : (sp_o ((sp_ent sg (12 * s + p) t).map (fun u => sp_e s u t))) = nI (sp_e s u t) := by rw [hq]; rfl
        have hk := sp_k012 hI hs4 hu16 ht hhs.2.2.1 hhs.2.2.2
        refine hr_aload_n X dX6_say_81 rfl (Or.inr ⟨_, rfl⟩) ?_
        refine mm_getA X kF6_23 dX6_say_82 hR 6 rfl ?_
        refine hr_iload X dX6_say_85 rfl ?_
        refine mm_iald (sp_e s u t) X dX6_say_87 hR rfl hE (by simp only [mm_len, sp_e]; omega) ?_
        refine hr_iload X dX6_say_88 rfl ?_
        refine hr_callS X kC6_199 dX6_say_90 (c_X6_isSaid cA (M := _) (sg 6 (sp_e s u t)) said) rfl rfl rfl (Nat.le_of_ble_eq_true rfl) ⟨⟨(Nat.le_of_ble_eq_true rfl), (Nat.le_of_ble_eq_true rfl)⟩, (Nat.le_of_ble_eq_true rfl), (Nat.le_of_ble_eq_true rfl)⟩ (fun v M90 hp => ?_)
        obtain ⟨rfl, rfl⟩ := hp
        refine hr_if_eq 100 X dX6_say_93 (by decide) (fun c93 => ?_) (fun c93 => ?_)
        · rw [hm_bI_eq] at c93
          have hz : (match sp_ent sg (12 * s + p) t with | none => true | some u => sp_isSaid (sg 6 (sp_e s u t)) said) = false := by rw [hq]; exact c93
          refine hr_iconst (0) X dX6_say_100 (by decide) ?_
          exact hr_eq (by rw [hz] <;> rfl) J101
        · rw [hm_bI_ne] at c93
          have hz : (match sp_ent sg (12 * s + p) t with | none => true | some u => sp_isSaid (sg 6 (sp_e s u t)) said) = true := by rw [hq]; exact c93
          refine hr_iconst (1) X dX6_say_96 (by decide) ?_
          refine hr_goto 101 X dX6_say_97 (by decide) ?_
          exact hr_eq (by rw [hz] <;> rfl) J101
    refine hr_iload X dX6_say_40 rfl ?_
    refine hr_if_eq 72 X dX6_say_42 (by decide) (fun c42 => ?_) (fun c42 => ?_)
    · exact absurd c42 (by decide)
    · refine hr_aload_n X dX6_say_45 rfl (Or.inr ⟨_, rfl⟩) ?_
      refine mm_getA X kF6_44 dX6_say_46 hR 13 rfl ?_
      refine hr_iload X dX6_say_49 rfl ?_
      refine mm_iald (12 * s + p) X dX6_say_51 hR rfl rfl (by simp only [mm_len, sp_e]; omega) ?_
      refine hr_iconst (1) X dX6_say_52 (by decide) ?_
      refine hr_icmp_ne 72 X dX6_say_53 (by decide) (fun c53 => ?_) (fun c53 => ?_)
      · have hz : (sp_o ((sp_ent sg (12 * s + p) t).map (fun u => sp_e s u t))) = -1 := by rw [sp_ent, if_neg c53]; rfl
        refine hr_iconst (-1) X dX6_say_72 (by decide) ?_
        exact hr_eq (by rw [hz] <;> rfl) J73
      · obtain ⟨-, v, hv, hvt⟩ := sp_handed hI (k := 12 * s + p) (by omega) (by rw [c53]; decide)
        rw [show (12 * s + p) / 12 = s by omega] at hvt
        have hv16 := hvt.1
        have hz : (sp_o ((sp_ent sg (12 * s + p) t).map (fun u => sp_e s u t))) = sp_o ((sp_has sg s v t).map (fun u => sp_e s u t)) := by rw [sp_ent, if_pos c53, show (12 * s + p) / 12 = s by omega, hv, show nN (nI v) = v from nI_clamp (by omega)]
        refine hr_aload_n X dX6_say_56 rfl (Or.inr ⟨_, rfl⟩) ?_
        refine hr_iload_n X dX6_say_57 rfl ?_
        refine hr_aload_n X dX6_say_58 rfl (Or.inr ⟨_, rfl⟩) ?_
        refine mm_getA X kF6_47 dX6_say_59 hR 14 rfl ?_
        refine hr_iload X dX6_say_62 rfl ?_
        refine mm_iald (12 * s + p) X dX6_say_64 hR rfl rfl (by simp only [mm_len, sp_e]; omega) ?_
        rw [hv]
        refine hr_iload_n X dX6_say_65 rfl ?_
        refine hr_callV X kC6_146 dX6_say_66 (c_X6_has cA hR hI s v t hs hvt ht) hR.1 rfl rfl rfl rfl (Nat.le_of_ble_eq_true rfl) ⟨⟨(Nat.le_of_ble_eq_true rfl), (Nat.le_of_ble_eq_true rfl)⟩, (Nat.le_of_ble_eq_true rfl), (Nat.le_of_ble_eq_true rfl)⟩ (fun v M66 hp => ?_)
        obtain ⟨rfl, rfl⟩ := hp
        refine hr_goto 73 X dX6_say_69 (by decide) ?_
        exact hr_eq (by rw [hz] <;> rfl) J73
set_option maxHeartbeats 4000000 in
set_option maxRecDepth 100000 in
theorem c_X6_say (cA : Nat → ClassId) {sg ta : mm_S} {ad : Nat → Nat} {mo : Nat} {M0 M : hm_M} (hR : mm_R cA sg ta ad mo M0 M) (hI : sp_I sg) (p s t said : Int32) : hm_Met cA yX6_say cX6_say 11 (some .int) r_X6_say [.ref mo, .int p, .int s, .int t, .int said] M (mm_P cA ad mo M0 (sp_thSay sg p s t said) (sp_taken (sp_sayN sg (nN p) (nN s) (nN t) said) (sp_k p s)) (if sp_thSay sg p s t said = 0 then sp_sayN sg (nN p) (nN s) (nN t) said else sg)) := by
  refine hm_met 6 (by decide +kernel) (fun w h => by simp only [List.mem_cons, List.not_mem_nil, or_false] at h; rcases h with rfl | rfl | rfl | rfl | rfl <;> rfl) rfl (fun C X => ?_)
  show hm_W C 0 0 _ M 0 [some (.ref mo), some (.int p), some (.int s), some (.int t), some (.int said), none, none, none, none, none, none] []
  have J21 : hm_W C 0 0 (hm_T C (mm_P cA ad mo M0 (sp_thSay sg p s t said) (sp_taken (sp_sayN sg (nN p) (nN s) (nN t) said) (sp_k p s)) (if sp_thSay sg p s t said = 0 then sp_sayN sg (nN p) (nN s) (nN t) said else sg)) r_X6_say.cells r_X6_say.slots) M 21 [some (.ref mo), some (.int p), some (.int s), some (.int t), some (.int said), none, none, none, none, none, none] [.int (hm_bI (sp_trip sg p s t))] := by
    cases hb : sp_trip sg p s t with
    | false => exact s_X6_say_n cA hR X p s t said hb
    | true =>
      obtain ⟨a, b, c, h1, h2, h3, h4, rfl, rfl, rfl, e1, e2, e3⟩ := sp_trip_nat hI hb
      have ek : sp_k (nI a) (nI b) = 12 * b + a := by rw [sp_k, e1, e2]
      have et : sp_thSay sg (nI a) (nI b) (nI c) said = sp_thSayN sg a b c said := by rw [sp_thSay, if_pos hb, e1, e2, e3]
      rw [et, ek, e1, e2, e3]
      exact s_X6_say_y cA hR X a b c said hI h1 h2 h3 h4
  refine hr_aload_n X dX6_say_0 rfl (Or.inr ⟨_, rfl⟩) ?_
  refine hr_iload_n X dX6_say_1 rfl ?_
  refine hr_iload_n X dX6_say_2 rfl ?_
  refine hr_callV X kC6_196 dX6_say_3 (c_X6_areBoth cA hR p s) hR.1 rfl rfl rfl rfl (Nat.le_of_ble_eq_true rfl) ⟨⟨(Nat.le_of_ble_eq_true rfl), (Nat.le_of_ble_eq_true rfl)⟩, (Nat.le_of_ble_eq_true rfl), (Nat.le_of_ble_eq_true rfl)⟩ (fun v M3 hp => ?_)
  obtain ⟨rfl, rfl⟩ := hp
  refine hr_if_eq 20 X dX6_say_6 (by decide) (fun c6 => ?_) (fun c6 => ?_)
  · rw [hm_bI_eq] at c6
    have hz : sp_trip sg p s t = false := by simp [sp_trip, c6]
    refine hr_iconst (0) X dX6_say_20 (by decide) ?_
    exact hr_eq (by rw [hz] <;> rfl) J21
  · rw [hm_bI_ne] at c6
    refine hr_iload_n X dX6_say_9 rfl ?_
    refine hr_callS X kC6_130 dX6_say_10 (c_X6_isTask cA (M := M) t) rfl rfl rfl (Nat.le_of_ble_eq_true rfl) ⟨⟨(Nat.le_of_ble_eq_true rfl), (Nat.le_of_ble_eq_true rfl)⟩, (Nat.le_of_ble_eq_true rfl), (Nat.le_of_ble_eq_true rfl)⟩ (fun v M10 hp => ?_)
    obtain ⟨rfl, rfl⟩ := hp
    refine hr_if_eq 20 X dX6_say_13 (by decide) (fun c13 => ?_) (fun c13 => ?_)
    · rw [hm_bI_eq] at c13
      have hz : sp_trip sg p s t = false := by simp [sp_trip, c13]
      refine hr_iconst (0) X dX6_say_20 (by decide) ?_
      exact hr_eq (by rw [hz] <;> rfl) J21
    · rw [hm_bI_ne] at c13
      have hz : sp_trip sg p s t = true := by simp [sp_trip, c6, c13]
      refine hr_iconst (1) X dX6_say_16 (by decide) ?_
      refine hr_goto 21 X dX6_say_17 (by decide) ?_
      exact hr_eq (by rw [hz] <;> rfl) J21
